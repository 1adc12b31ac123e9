set_option maxRecDepth 100000 in
set_option maxHeartbeats 4000000 in
theorem lk_letter {G : gJ} {xs : Nat → Int32} {L : Nat} (h : gR RL cL_law 12 458 G) (hs : ∀ (pc : Nat) (ls st : List Value) (g : gG) (i : Nat), decode cL_law pc = .ok (.iaload, 1) → i < L → G (pc + 1) ls (.int (xs i) :: st) g → G pc ls (.int (nI i) :: .ref 200 :: st) g) {i : Nat} (hi : i + 6 ≤ L) {g : gG} (hI : Inv g) (kt : ∀ g1, Inv g1 → G 1290 [.ref 200, .ref 0, .ref 35, .int (nI i)] [] g1) : G 208 [.ref 200, .ref 0, .ref 35, .int (nI i)] [] g := by
  obtain ⟨c, ck, hk, lt, nl, rv, nr, rf, hR, hX, hM, hN, ⟨ho, hd⟩, hck⟩ := hI
  have hgk : gk c := ⟨ho, hd⟩
  refine r_aload_n (pc := 208) h dL_law_208 rfl ?_
  refine r_aload_n (pc := 209) h dL_law_209 rfl ?_
  refine r_iload_n (pc := 210) h dL_law_210 rfl ?_
  refine r_iconst (pc := 211) h dL_law_211 ci_1 ?_
  refine r_iadd (pc := 212) h dL_law_212 ?_
  refine r_top (y := nI (i + 1)) h (nI_add _ _) ?_
  refine hs 213 _ _ _ _ dL_law_213 (by omega) ?_
  refine r_callVi (pc := 214) (As := [_]) h dL_law_214 k_L_13 gc_0 rfl ⟨Nat.le_of_ble_eq_true rfl, Nat.le_of_ble_eq_true rfl, Nat.le_of_ble_eq_true rfl⟩ (x_letter hR hX ho hd _) (fun x_214 g1 hq => ?_)
  obtain ⟨hx1, hR1, hX1, hF1⟩ := hq
  have hM1 := hM.fx hF1
  have hN1 := hN.fx hF1
  refine r_aload_n (pc := 217) h dL_law_217 rfl ?_
  refine r_aload_n (pc := 218) h dL_law_218 rfl ?_
  refine r_iload_n (pc := 219) h dL_law_219 rfl ?_
  refine r_iconst (pc := 220) h dL_law_220 ci_1 ?_
  refine r_iadd (pc := 221) h dL_law_221 ?_
  refine r_top (y := nI (i + 1)) h (nI_add _ _) ?_
  refine hs 222 _ _ _ _ dL_law_222 (by omega) ?_
  refine r_callVi (pc := 223) (As := [_]) h dL_law_223 k_L_17 gc_35 rfl ⟨Nat.le_of_ble_eq_true rfl, Nat.le_of_ble_eq_true rfl, Nat.le_of_ble_eq_true rfl⟩ (y_letter hM1 hN1 ho hd _) (fun x_223 g2 hq => ?_)
  obtain ⟨hy1, hM2, hN2, hF2⟩ := hq
  have hR2 := hR1.fy hF2
  have hX2 := hX1.fy hF2
  refine r_icmp_eq (pc := 226) (tgt := 1290) h dL_law_226 (by decide) (fun c226 => ?_) (fun c226 => absurd (hx1.trans hy1.symm) c226)
  exact kt _ ⟨_, _, _, _, _, _, _, _, hR2, hX2, hM2, hN2, hgk, hck⟩
set_option maxRecDepth 100000 in
set_option maxHeartbeats 4000000 in
theorem lk_city {G : gJ} {xs : Nat → Int32} {L : Nat} (h : gR RL cL_law 12 458 G) (hs : ∀ (pc : Nat) (ls st : List Value) (g : gG) (i : Nat), decode cL_law pc = .ok (.iaload, 1) → i < L → G (pc + 1) ls (.int (xs i) :: st) g → G pc ls (.int (nI i) :: .ref 200 :: st) g) {i : Nat} (hi : i + 6 ≤ L) {g : gG} (hI : Inv g) (kt : ∀ g1, Inv g1 → G 1290 [.ref 200, .ref 0, .ref 35, .int (nI i)] [] g1) : G 231 [.ref 200, .ref 0, .ref 35, .int (nI i)] [] g := by
  obtain ⟨c, ck, hk, lt, nl, rv, nr, rf, hR, hX, hM, hN, ⟨ho, hd⟩, hck⟩ := hI
  have hgk : gk c := ⟨ho, hd⟩
  refine r_aload_n (pc := 231) h dL_law_231 rfl ?_
  refine r_callVi (pc := 232) (As := []) h dL_law_232 k_L_18 gc_0 rfl ⟨Nat.le_of_ble_eq_true rfl, Nat.le_of_ble_eq_true rfl, Nat.le_of_ble_eq_true rfl⟩ (x_city hR hX ho hd) (fun x_232 g1 hq => ?_)
  obtain ⟨hx1, hR1, hX1, hF1⟩ := hq
  have hM1 := hM.fx hF1
  have hN1 := hN.fx hF1
  refine r_aload_n (pc := 235) h dL_law_235 rfl ?_
  refine r_callVi (pc := 236) (As := []) h dL_law_236 k_L_22 gc_35 rfl ⟨Nat.le_of_ble_eq_true rfl, Nat.le_of_ble_eq_true rfl, Nat.le_of_ble_eq_true rfl⟩ (y_city hM1 hN1 ho hd) (fun x_236 g2 hq => ?_)
  obtain ⟨hy1, hM2, hN2, hF2⟩ := hq
  have hR2 := hR1.fy hF2
  have hX2 := hX1.fy hF2
  refine r_icmp_eq (pc := 239) (tgt := 1290) h dL_law_239 (by decide) (fun c239 => ?_) (fun c239 => absurd (hx1.trans hy1.symm) c239)
  exact kt _ ⟨_, _, _, _, _, _, _, _, hR2, hX2, hM2, hN2, cityC_ok hgk.1 hgk.2, hck⟩
set_option maxRecDepth 100000 in
set_option maxHeartbeats 4000000 in
theorem lk_suit {G : gJ} {xs : Nat → Int32} {L : Nat} (h : gR RL cL_law 12 458 G) (hs : ∀ (pc : Nat) (ls st : List Value) (g : gG) (i : Nat), decode cL_law pc = .ok (.iaload, 1) → i < L → G (pc + 1) ls (.int (xs i) :: st) g → G pc ls (.int (nI i) :: .ref 200 :: st) g) {i : Nat} (hi : i + 6 ≤ L) {g : gG} (hI : Inv g) (kt : ∀ g1, Inv g1 → G 1290 [.ref 200, .ref 0, .ref 35, .int (nI i)] [] g1) : G 244 [.ref 200, .ref 0, .ref 35, .int (nI i)] [] g := by
  obtain ⟨c, ck, hk, lt, nl, rv, nr, rf, hR, hX, hM, hN, ⟨ho, hd⟩, hck⟩ := hI
  have hgk : gk c := ⟨ho, hd⟩
  refine r_aload_n (pc := 244) h dL_law_244 rfl ?_
  refine r_aload_n (pc := 245) h dL_law_245 rfl ?_
  refine r_iload_n (pc := 246) h dL_law_246 rfl ?_
  refine r_iconst (pc := 247) h dL_law_247 ci_1 ?_
  refine r_iadd (pc := 248) h dL_law_248 ?_
  refine r_top (y := nI (i + 1)) h (nI_add _ _) ?_
  refine hs 249 _ _ _ _ dL_law_249 (by omega) ?_
  refine r_aload_n (pc := 250) h dL_law_250 rfl ?_
  refine r_iload_n (pc := 251) h dL_law_251 rfl ?_
  refine r_iconst (pc := 252) h dL_law_252 ci_2 ?_
  refine r_iadd (pc := 253) h dL_law_253 ?_
  refine r_top (y := nI (i + 2)) h (nI_add _ _) ?_
  refine hs 254 _ _ _ _ dL_law_254 (by omega) ?_
  refine r_callVi (pc := 255) (As := [_, _]) h dL_law_255 k_L_23 gc_0 rfl ⟨Nat.le_of_ble_eq_true rfl, Nat.le_of_ble_eq_true rfl, Nat.le_of_ble_eq_true rfl⟩ (x_suit hR hX ho hd _ _) (fun x_255 g1 hq => ?_)
  obtain ⟨hx1, hR1, hX1, hF1⟩ := hq
  have hM1 := hM.fx hF1
  have hN1 := hN.fx hF1
  refine r_aload_n (pc := 258) h dL_law_258 rfl ?_
  refine r_aload_n (pc := 259) h dL_law_259 rfl ?_
  refine r_iload_n (pc := 260) h dL_law_260 rfl ?_
  refine r_iconst (pc := 261) h dL_law_261 ci_1 ?_
  refine r_iadd (pc := 262) h dL_law_262 ?_
  refine r_top (y := nI (i + 1)) h (nI_add _ _) ?_
  refine hs 263 _ _ _ _ dL_law_263 (by omega) ?_
  refine r_aload_n (pc := 264) h dL_law_264 rfl ?_
  refine r_iload_n (pc := 265) h dL_law_265 rfl ?_
  refine r_iconst (pc := 266) h dL_law_266 ci_2 ?_
  refine r_iadd (pc := 267) h dL_law_267 ?_
  refine r_top (y := nI (i + 2)) h (nI_add _ _) ?_
  refine hs 268 _ _ _ _ dL_law_268 (by omega) ?_
  refine r_callVi (pc := 269) (As := [_, _]) h dL_law_269 k_L_27 gc_35 rfl ⟨Nat.le_of_ble_eq_true rfl, Nat.le_of_ble_eq_true rfl, Nat.le_of_ble_eq_true rfl⟩ (y_suit hM1 hN1 ho hd _ _) (fun x_269 g2 hq => ?_)
  obtain ⟨hy1, hM2, hN2, hF2⟩ := hq
  have hR2 := hR1.fy hF2
  have hX2 := hX1.fy hF2
  refine r_icmp_eq (pc := 272) (tgt := 1290) h dL_law_272 (by decide) (fun c272 => ?_) (fun c272 => absurd (hx1.trans hy1.symm) c272)
  exact kt _ ⟨_, _, _, _, _, _, _, _, hR2, hX2, hM2, hN2, hgk, hck⟩
set_option maxRecDepth 100000 in
set_option maxHeartbeats 4000000 in
theorem lk_caller {G : gJ} {xs : Nat → Int32} {L : Nat} (h : gR RL cL_law 12 458 G) (hs : ∀ (pc : Nat) (ls st : List Value) (g : gG) (i : Nat), decode cL_law pc = .ok (.iaload, 1) → i < L → G (pc + 1) ls (.int (xs i) :: st) g → G pc ls (.int (nI i) :: .ref 200 :: st) g) {i : Nat} (hi : i + 6 ≤ L) {g : gG} (hI : Inv g) (kt : ∀ g1, Inv g1 → G 1290 [.ref 200, .ref 0, .ref 35, .int (nI i)] [] g1) : G 277 [.ref 200, .ref 0, .ref 35, .int (nI i)] [] g := by
  obtain ⟨c, ck, hk, lt, nl, rv, nr, rf, hR, hX, hM, hN, ⟨ho, hd⟩, hck⟩ := hI
  have hgk : gk c := ⟨ho, hd⟩
  refine r_aload_n (pc := 277) h dL_law_277 rfl ?_
  refine r_aload_n (pc := 278) h dL_law_278 rfl ?_
  refine r_iload_n (pc := 279) h dL_law_279 rfl ?_
  refine r_iconst (pc := 280) h dL_law_280 ci_1 ?_
  refine r_iadd (pc := 281) h dL_law_281 ?_
  refine r_top (y := nI (i + 1)) h (nI_add _ _) ?_
  refine hs 282 _ _ _ _ dL_law_282 (by omega) ?_
  refine r_aload_n (pc := 283) h dL_law_283 rfl ?_
  refine r_iload_n (pc := 284) h dL_law_284 rfl ?_
  refine r_iconst (pc := 285) h dL_law_285 ci_2 ?_
  refine r_iadd (pc := 286) h dL_law_286 ?_
  refine r_top (y := nI (i + 2)) h (nI_add _ _) ?_
  refine hs 287 _ _ _ _ dL_law_287 (by omega) ?_
  refine r_callVi (pc := 288) (As := [_, _]) h dL_law_288 k_L_28 gc_0 rfl ⟨Nat.le_of_ble_eq_true rfl, Nat.le_of_ble_eq_true rfl, Nat.le_of_ble_eq_true rfl⟩ (x_caller hR hX ho hd _ _) (fun x_288 g1 hq => ?_)
  obtain ⟨hx1, hR1, hX1, hF1⟩ := hq
  have hM1 := hM.fx hF1
  have hN1 := hN.fx hF1
  refine r_aload_n (pc := 291) h dL_law_291 rfl ?_
  refine r_aload_n (pc := 292) h dL_law_292 rfl ?_
  refine r_iload_n (pc := 293) h dL_law_293 rfl ?_
  refine r_iconst (pc := 294) h dL_law_294 ci_1 ?_
  refine r_iadd (pc := 295) h dL_law_295 ?_
  refine r_top (y := nI (i + 1)) h (nI_add _ _) ?_
  refine hs 296 _ _ _ _ dL_law_296 (by omega) ?_
  refine r_aload_n (pc := 297) h dL_law_297 rfl ?_
  refine r_iload_n (pc := 298) h dL_law_298 rfl ?_
  refine r_iconst (pc := 299) h dL_law_299 ci_2 ?_
  refine r_iadd (pc := 300) h dL_law_300 ?_
  refine r_top (y := nI (i + 2)) h (nI_add _ _) ?_
  refine hs 301 _ _ _ _ dL_law_301 (by omega) ?_
  refine r_callVi (pc := 302) (As := [_, _]) h dL_law_302 k_L_31 gc_35 rfl ⟨Nat.le_of_ble_eq_true rfl, Nat.le_of_ble_eq_true rfl, Nat.le_of_ble_eq_true rfl⟩ (y_caller hM1 hN1 ho hd _ _) (fun x_302 g2 hq => ?_)
  obtain ⟨hy1, hM2, hN2, hF2⟩ := hq
  have hR2 := hR1.fy hF2
  have hX2 := hX1.fy hF2
  refine r_icmp_eq (pc := 305) (tgt := 1290) h dL_law_305 (by decide) (fun c305 => ?_) (fun c305 => absurd (hx1.trans hy1.symm) c305)
  exact kt _ ⟨_, _, _, _, _, _, _, _, hR2, hX2, hM2, hN2, hgk, hck⟩
set_option maxRecDepth 100000 in
set_option maxHeartbeats 4000000 in
theorem lk_courage {G : gJ} {xs : Nat → Int32} {L : Nat} (h : gR RL cL_law 12 458 G) (hs : ∀ (pc : Nat) (ls st : List Value) (g : gG) (i : Nat), decode cL_law pc = .ok (.iaload, 1) → i < L → G (pc + 1) ls (.int (xs i) :: st) g → G pc ls (.int (nI i) :: .ref 200 :: st) g) {i : Nat} (hi : i + 6 ≤ L) {g : gG} (hI : Inv g) (kt : ∀ g1, Inv g1 → G 1290 [.ref 200, .ref 0, .ref 35, .int (nI i)] [] g1) : G 310 [.ref 200, .ref 0, .ref 35, .int (nI i)] [] g := by
  obtain ⟨c, ck, hk, lt, nl, rv, nr, rf, hR, hX, hM, hN, ⟨ho, hd⟩, hck⟩ := hI
  have hgk : gk c := ⟨ho, hd⟩
  refine r_aload_n (pc := 310) h dL_law_310 rfl ?_
  refine r_aload_n (pc := 311) h dL_law_311 rfl ?_
  refine r_iload_n (pc := 312) h dL_law_312 rfl ?_
  refine r_iconst (pc := 313) h dL_law_313 ci_1 ?_
  refine r_iadd (pc := 314) h dL_law_314 ?_
  refine r_top (y := nI (i + 1)) h (nI_add _ _) ?_
  refine hs 315 _ _ _ _ dL_law_315 (by omega) ?_
  refine r_callVi (pc := 316) (As := [_]) h dL_law_316 k_L_32 gc_0 rfl ⟨Nat.le_of_ble_eq_true rfl, Nat.le_of_ble_eq_true rfl, Nat.le_of_ble_eq_true rfl⟩ (x_courage hR hX ho hd _) (fun x_316 g1 hq => ?_)
  obtain ⟨hx1, hR1, hX1, hF1⟩ := hq
  have hM1 := hM.fx hF1
  have hN1 := hN.fx hF1
  refine r_aload_n (pc := 319) h dL_law_319 rfl ?_
  refine r_aload_n (pc := 320) h dL_law_320 rfl ?_
  refine r_iload_n (pc := 321) h dL_law_321 rfl ?_
  refine r_iconst (pc := 322) h dL_law_322 ci_1 ?_
  refine r_iadd (pc := 323) h dL_law_323 ?_
  refine r_top (y := nI (i + 1)) h (nI_add _ _) ?_
  refine hs 324 _ _ _ _ dL_law_324 (by omega) ?_
  refine r_callVi (pc := 325) (As := [_]) h dL_law_325 k_L_35 gc_35 rfl ⟨Nat.le_of_ble_eq_true rfl, Nat.le_of_ble_eq_true rfl, Nat.le_of_ble_eq_true rfl⟩ (y_courage hM1 hN1 ho hd _) (fun x_325 g2 hq => ?_)
  obtain ⟨hy1, hM2, hN2, hF2⟩ := hq
  have hR2 := hR1.fy hF2
  have hX2 := hX1.fy hF2
  refine r_icmp_eq (pc := 328) (tgt := 1290) h dL_law_328 (by decide) (fun c328 => ?_) (fun c328 => absurd (hx1.trans hy1.symm) c328)
  exact kt _ ⟨_, _, _, _, _, _, _, _, hR2, hX2, hM2, hN2, hgk, hck⟩
set_option maxRecDepth 100000 in
set_option maxHeartbeats 4000000 in
theorem lk_wears {G : gJ} {xs : Nat → Int32} {L : Nat} (h : gR RL cL_law 12 458 G) (hs : ∀ (pc : Nat) (ls st : List Value) (g : gG) (i : Nat), decode cL_law pc = .ok (.iaload, 1) → i < L → G (pc + 1) ls (.int (xs i) :: st) g → G pc ls (.int (nI i) :: .ref 200 :: st) g) {i : Nat} (hi : i + 6 ≤ L) {g : gG} (hI : Inv g) (kt : ∀ g1, Inv g1 → G 1290 [.ref 200, .ref 0, .ref 35, .int (nI i)] [] g1) : G 333 [.ref 200, .ref 0, .ref 35, .int (nI i)] [] g := by
  obtain ⟨c, ck, hk, lt, nl, rv, nr, rf, hR, hX, hM, hN, ⟨ho, hd⟩, hck⟩ := hI
  have hgk : gk c := ⟨ho, hd⟩
  refine r_aload_n (pc := 333) h dL_law_333 rfl ?_
  refine r_aload_n (pc := 334) h dL_law_334 rfl ?_
  refine r_iload_n (pc := 335) h dL_law_335 rfl ?_
  refine r_iconst (pc := 336) h dL_law_336 ci_1 ?_
  refine r_iadd (pc := 337) h dL_law_337 ?_
  refine r_top (y := nI (i + 1)) h (nI_add _ _) ?_
  refine hs 338 _ _ _ _ dL_law_338 (by omega) ?_
  refine r_aload_n (pc := 339) h dL_law_339 rfl ?_
  refine r_iload_n (pc := 340) h dL_law_340 rfl ?_
  refine r_iconst (pc := 341) h dL_law_341 ci_2 ?_
  refine r_iadd (pc := 342) h dL_law_342 ?_
  refine r_top (y := nI (i + 2)) h (nI_add _ _) ?_
  refine hs 343 _ _ _ _ dL_law_343 (by omega) ?_
  refine r_callVi (pc := 344) (As := [_, _]) h dL_law_344 k_L_36 gc_0 rfl ⟨Nat.le_of_ble_eq_true rfl, Nat.le_of_ble_eq_true rfl, Nat.le_of_ble_eq_true rfl⟩ (x_wears hR hX ho hd _ _) (fun x_344 g1 hq => ?_)
  obtain ⟨hx1, hR1, hX1, hF1⟩ := hq
  have hM1 := hM.fx hF1
  have hN1 := hN.fx hF1
  refine r_aload_n (pc := 347) h dL_law_347 rfl ?_
  refine r_aload_n (pc := 348) h dL_law_348 rfl ?_
  refine r_iload_n (pc := 349) h dL_law_349 rfl ?_
  refine r_iconst (pc := 350) h dL_law_350 ci_1 ?_
  refine r_iadd (pc := 351) h dL_law_351 ?_
  refine r_top (y := nI (i + 1)) h (nI_add _ _) ?_
  refine hs 352 _ _ _ _ dL_law_352 (by omega) ?_
  refine r_aload_n (pc := 353) h dL_law_353 rfl ?_
  refine r_iload_n (pc := 354) h dL_law_354 rfl ?_
  refine r_iconst (pc := 355) h dL_law_355 ci_2 ?_
  refine r_iadd (pc := 356) h dL_law_356 ?_
  refine r_top (y := nI (i + 2)) h (nI_add _ _) ?_
  refine hs 357 _ _ _ _ dL_law_357 (by omega) ?_
  refine r_callVi (pc := 358) (As := [_, _]) h dL_law_358 k_L_39 gc_35 rfl ⟨Nat.le_of_ble_eq_true rfl, Nat.le_of_ble_eq_true rfl, Nat.le_of_ble_eq_true rfl⟩ (y_wears hM1 hN1 ho hd _ _) (fun x_358 g2 hq => ?_)
  obtain ⟨hy1, hM2, hN2, hF2⟩ := hq
  have hR2 := hR1.fy hF2
  have hX2 := hX1.fy hF2
  refine r_icmp_eq (pc := 361) (tgt := 1290) h dL_law_361 (by decide) (fun c361 => ?_) (fun c361 => absurd (hx1.trans hy1.symm) c361)
  exact kt _ ⟨_, _, _, _, _, _, _, _, hR2, hX2, hM2, hN2, p_wears hgk hR.n6, hck⟩
set_option maxRecDepth 100000 in
set_option maxHeartbeats 4000000 in
theorem lk_takesOff {G : gJ} {xs : Nat → Int32} {L : Nat} (h : gR RL cL_law 12 458 G) (hs : ∀ (pc : Nat) (ls st : List Value) (g : gG) (i : Nat), decode cL_law pc = .ok (.iaload, 1) → i < L → G (pc + 1) ls (.int (xs i) :: st) g → G pc ls (.int (nI i) :: .ref 200 :: st) g) {i : Nat} (hi : i + 6 ≤ L) {g : gG} (hI : Inv g) (kt : ∀ g1, Inv g1 → G 1290 [.ref 200, .ref 0, .ref 35, .int (nI i)] [] g1) : G 366 [.ref 200, .ref 0, .ref 35, .int (nI i)] [] g := by
  obtain ⟨c, ck, hk, lt, nl, rv, nr, rf, hR, hX, hM, hN, ⟨ho, hd⟩, hck⟩ := hI
  have hgk : gk c := ⟨ho, hd⟩
  refine r_aload_n (pc := 366) h dL_law_366 rfl ?_
  refine r_aload_n (pc := 367) h dL_law_367 rfl ?_
  refine r_iload_n (pc := 368) h dL_law_368 rfl ?_
  refine r_iconst (pc := 369) h dL_law_369 ci_1 ?_
  refine r_iadd (pc := 370) h dL_law_370 ?_
  refine r_top (y := nI (i + 1)) h (nI_add _ _) ?_
  refine hs 371 _ _ _ _ dL_law_371 (by omega) ?_
  refine r_callVi (pc := 372) (As := [_]) h dL_law_372 k_L_40 gc_0 rfl ⟨Nat.le_of_ble_eq_true rfl, Nat.le_of_ble_eq_true rfl, Nat.le_of_ble_eq_true rfl⟩ (x_takesOff hR hX ho hd _) (fun x_372 g1 hq => ?_)
  obtain ⟨hx1, hR1, hX1, hF1⟩ := hq
  have hM1 := hM.fx hF1
  have hN1 := hN.fx hF1
  refine r_aload_n (pc := 375) h dL_law_375 rfl ?_
  refine r_aload_n (pc := 376) h dL_law_376 rfl ?_
  refine r_iload_n (pc := 377) h dL_law_377 rfl ?_
  refine r_iconst (pc := 378) h dL_law_378 ci_1 ?_
  refine r_iadd (pc := 379) h dL_law_379 ?_
  refine r_top (y := nI (i + 1)) h (nI_add _ _) ?_
  refine hs 380 _ _ _ _ dL_law_380 (by omega) ?_
  refine r_callVi (pc := 381) (As := [_]) h dL_law_381 k_L_43 gc_35 rfl ⟨Nat.le_of_ble_eq_true rfl, Nat.le_of_ble_eq_true rfl, Nat.le_of_ble_eq_true rfl⟩ (y_takesOff hM1 hN1 ho hd _) (fun x_381 g2 hq => ?_)
  obtain ⟨hy1, hM2, hN2, hF2⟩ := hq
  have hR2 := hR1.fy hF2
  have hX2 := hX1.fy hF2
  refine r_icmp_eq (pc := 384) (tgt := 1290) h dL_law_384 (by decide) (fun c384 => ?_) (fun c384 => absurd (hx1.trans hy1.symm) c384)
  exact kt _ ⟨_, _, _, _, _, _, _, _, hR2, hX2, hM2, hN2, p_off hgk, hck⟩
set_option maxRecDepth 100000 in
set_option maxHeartbeats 4000000 in
theorem lk_fears {G : gJ} {xs : Nat → Int32} {L : Nat} (h : gR RL cL_law 12 458 G) (hs : ∀ (pc : Nat) (ls st : List Value) (g : gG) (i : Nat), decode cL_law pc = .ok (.iaload, 1) → i < L → G (pc + 1) ls (.int (xs i) :: st) g → G pc ls (.int (nI i) :: .ref 200 :: st) g) {i : Nat} (hi : i + 6 ≤ L) {g : gG} (hI : Inv g) (kt : ∀ g1, Inv g1 → G 1290 [.ref 200, .ref 0, .ref 35, .int (nI i)] [] g1) : G 389 [.ref 200, .ref 0, .ref 35, .int (nI i)] [] g := by
  obtain ⟨c, ck, hk, lt, nl, rv, nr, rf, hR, hX, hM, hN, ⟨ho, hd⟩, hck⟩ := hI
  have hgk : gk c := ⟨ho, hd⟩
  refine r_aload_n (pc := 389) h dL_law_389 rfl ?_
  refine r_aload_n (pc := 390) h dL_law_390 rfl ?_
  refine r_iload_n (pc := 391) h dL_law_391 rfl ?_
  refine r_iconst (pc := 392) h dL_law_392 ci_1 ?_
  refine r_iadd (pc := 393) h dL_law_393 ?_
  refine r_top (y := nI (i + 1)) h (nI_add _ _) ?_
  refine hs 394 _ _ _ _ dL_law_394 (by omega) ?_
  refine r_aload_n (pc := 395) h dL_law_395 rfl ?_
  refine r_iload_n (pc := 396) h dL_law_396 rfl ?_
  refine r_iconst (pc := 397) h dL_law_397 ci_2 ?_
  refine r_iadd (pc := 398) h dL_law_398 ?_
  refine r_top (y := nI (i + 2)) h (nI_add _ _) ?_
  refine hs 399 _ _ _ _ dL_law_399 (by omega) ?_
  refine r_callVi (pc := 400) (As := [_, _]) h dL_law_400 k_L_44 gc_0 rfl ⟨Nat.le_of_ble_eq_true rfl, Nat.le_of_ble_eq_true rfl, Nat.le_of_ble_eq_true rfl⟩ (x_fears hR hX ho hd _ _) (fun x_400 g1 hq => ?_)
  obtain ⟨hx1, hR1, hX1, hF1⟩ := hq
  have hM1 := hM.fx hF1
  have hN1 := hN.fx hF1
  refine r_aload_n (pc := 403) h dL_law_403 rfl ?_
  refine r_aload_n (pc := 404) h dL_law_404 rfl ?_
  refine r_iload_n (pc := 405) h dL_law_405 rfl ?_
  refine r_iconst (pc := 406) h dL_law_406 ci_1 ?_
  refine r_iadd (pc := 407) h dL_law_407 ?_
  refine r_top (y := nI (i + 1)) h (nI_add _ _) ?_
  refine hs 408 _ _ _ _ dL_law_408 (by omega) ?_
  refine r_aload_n (pc := 409) h dL_law_409 rfl ?_
  refine r_iload_n (pc := 410) h dL_law_410 rfl ?_
  refine r_iconst (pc := 411) h dL_law_411 ci_2 ?_
  refine r_iadd (pc := 412) h dL_law_412 ?_
  refine r_top (y := nI (i + 2)) h (nI_add _ _) ?_
  refine hs 413 _ _ _ _ dL_law_413 (by omega) ?_
  refine r_callVi (pc := 414) (As := [_, _]) h dL_law_414 k_L_47 gc_35 rfl ⟨Nat.le_of_ble_eq_true rfl, Nat.le_of_ble_eq_true rfl, Nat.le_of_ble_eq_true rfl⟩ (y_fears hM1 hN1 ho hd _ _) (fun x_414 g2 hq => ?_)
  obtain ⟨hy1, hM2, hN2, hF2⟩ := hq
  have hR2 := hR1.fy hF2
  have hX2 := hX1.fy hF2
  refine r_icmp_eq (pc := 417) (tgt := 1290) h dL_law_417 (by decide) (fun c417 => ?_) (fun c417 => absurd (hx1.trans hy1.symm) c417)
  exact kt _ ⟨_, _, _, _, _, _, _, _, hR2, hX2, hM2, hN2, p_fears hgk, hck⟩
set_option maxRecDepth 100000 in
set_option maxHeartbeats 4000000 in
theorem lk_rusts {G : gJ} {xs : Nat → Int32} {L : Nat} (h : gR RL cL_law 12 458 G) (hs : ∀ (pc : Nat) (ls st : List Value) (g : gG) (i : Nat), decode cL_law pc = .ok (.iaload, 1) → i < L → G (pc + 1) ls (.int (xs i) :: st) g → G pc ls (.int (nI i) :: .ref 200 :: st) g) {i : Nat} (hi : i + 6 ≤ L) {g : gG} (hI : Inv g) (kt : ∀ g1, Inv g1 → G 1290 [.ref 200, .ref 0, .ref 35, .int (nI i)] [] g1) : G 422 [.ref 200, .ref 0, .ref 35, .int (nI i)] [] g := by
  obtain ⟨c, ck, hk, lt, nl, rv, nr, rf, hR, hX, hM, hN, ⟨ho, hd⟩, hck⟩ := hI
  have hgk : gk c := ⟨ho, hd⟩
  refine r_aload_n (pc := 422) h dL_law_422 rfl ?_
  refine r_aload_n (pc := 423) h dL_law_423 rfl ?_
  refine r_iload_n (pc := 424) h dL_law_424 rfl ?_
  refine r_iconst (pc := 425) h dL_law_425 ci_1 ?_
  refine r_iadd (pc := 426) h dL_law_426 ?_
  refine r_top (y := nI (i + 1)) h (nI_add _ _) ?_
  refine hs 427 _ _ _ _ dL_law_427 (by omega) ?_
  refine r_aload_n (pc := 428) h dL_law_428 rfl ?_
  refine r_iload_n (pc := 429) h dL_law_429 rfl ?_
  refine r_iconst (pc := 430) h dL_law_430 ci_2 ?_
  refine r_iadd (pc := 431) h dL_law_431 ?_
  refine r_top (y := nI (i + 2)) h (nI_add _ _) ?_
  refine hs 432 _ _ _ _ dL_law_432 (by omega) ?_
  refine r_callVi (pc := 433) (As := [_, _]) h dL_law_433 k_L_48 gc_0 rfl ⟨Nat.le_of_ble_eq_true rfl, Nat.le_of_ble_eq_true rfl, Nat.le_of_ble_eq_true rfl⟩ (x_rusts hR hX ho hd _ _) (fun x_433 g1 hq => ?_)
  obtain ⟨hx1, hR1, hX1, hF1⟩ := hq
  have hM1 := hM.fx hF1
  have hN1 := hN.fx hF1
  refine r_aload_n (pc := 436) h dL_law_436 rfl ?_
  refine r_aload_n (pc := 437) h dL_law_437 rfl ?_
  refine r_iload_n (pc := 438) h dL_law_438 rfl ?_
  refine r_iconst (pc := 439) h dL_law_439 ci_1 ?_
  refine r_iadd (pc := 440) h dL_law_440 ?_
  refine r_top (y := nI (i + 1)) h (nI_add _ _) ?_
  refine hs 441 _ _ _ _ dL_law_441 (by omega) ?_
  refine r_aload_n (pc := 442) h dL_law_442 rfl ?_
  refine r_iload_n (pc := 443) h dL_law_443 rfl ?_
  refine r_iconst (pc := 444) h dL_law_444 ci_2 ?_
  refine r_iadd (pc := 445) h dL_law_445 ?_
  refine r_top (y := nI (i + 2)) h (nI_add _ _) ?_
  refine hs 446 _ _ _ _ dL_law_446 (by omega) ?_
  refine r_callVi (pc := 447) (As := [_, _]) h dL_law_447 k_L_51 gc_35 rfl ⟨Nat.le_of_ble_eq_true rfl, Nat.le_of_ble_eq_true rfl, Nat.le_of_ble_eq_true rfl⟩ (y_rusts hM1 hN1 ho hd _ _) (fun x_447 g2 hq => ?_)
  obtain ⟨hy1, hM2, hN2, hF2⟩ := hq
  have hR2 := hR1.fy hF2
  have hX2 := hX1.fy hF2
  refine r_icmp_eq (pc := 450) (tgt := 1290) h dL_law_450 (by decide) (fun c450 => ?_) (fun c450 => absurd (hx1.trans hy1.symm) c450)
  exact kt _ ⟨_, _, _, _, _, _, _, _, hR2, hX2, hM2, hN2, p_rusts hgk, hck⟩
set_option maxRecDepth 100000 in
set_option maxHeartbeats 4000000 in
theorem lk_soothes {G : gJ} {xs : Nat → Int32} {L : Nat} (h : gR RL cL_law 12 458 G) (hs : ∀ (pc : Nat) (ls st : List Value) (g : gG) (i : Nat), decode cL_law pc = .ok (.iaload, 1) → i < L → G (pc + 1) ls (.int (xs i) :: st) g → G pc ls (.int (nI i) :: .ref 200 :: st) g) {i : Nat} (hi : i + 6 ≤ L) {g : gG} (hI : Inv g) (kt : ∀ g1, Inv g1 → G 1290 [.ref 200, .ref 0, .ref 35, .int (nI i)] [] g1) : G 455 [.ref 200, .ref 0, .ref 35, .int (nI i)] [] g := by
  obtain ⟨c, ck, hk, lt, nl, rv, nr, rf, hR, hX, hM, hN, ⟨ho, hd⟩, hck⟩ := hI
  have hgk : gk c := ⟨ho, hd⟩
  refine r_aload_n (pc := 455) h dL_law_455 rfl ?_
  refine r_aload_n (pc := 456) h dL_law_456 rfl ?_
  refine r_iload_n (pc := 457) h dL_law_457 rfl ?_
  refine r_iconst (pc := 458) h dL_law_458 ci_1 ?_
  refine r_iadd (pc := 459) h dL_law_459 ?_
  refine r_top (y := nI (i + 1)) h (nI_add _ _) ?_
  refine hs 460 _ _ _ _ dL_law_460 (by omega) ?_
  refine r_aload_n (pc := 461) h dL_law_461 rfl ?_
  refine r_iload_n (pc := 462) h dL_law_462 rfl ?_
  refine r_iconst (pc := 463) h dL_law_463 ci_2 ?_
  refine r_iadd (pc := 464) h dL_law_464 ?_
  refine r_top (y := nI (i + 2)) h (nI_add _ _) ?_
  refine hs 465 _ _ _ _ dL_law_465 (by omega) ?_
  refine r_callVi (pc := 466) (As := [_, _]) h dL_law_466 k_L_52 gc_0 rfl ⟨Nat.le_of_ble_eq_true rfl, Nat.le_of_ble_eq_true rfl, Nat.le_of_ble_eq_true rfl⟩ (x_soothes hR hX ho hd _ _) (fun x_466 g1 hq => ?_)
  obtain ⟨hx1, hR1, hX1, hF1⟩ := hq
  have hM1 := hM.fx hF1
  have hN1 := hN.fx hF1
  refine r_aload_n (pc := 469) h dL_law_469 rfl ?_
  refine r_aload_n (pc := 470) h dL_law_470 rfl ?_
  refine r_iload_n (pc := 471) h dL_law_471 rfl ?_
  refine r_iconst (pc := 472) h dL_law_472 ci_1 ?_
  refine r_iadd (pc := 473) h dL_law_473 ?_
  refine r_top (y := nI (i + 1)) h (nI_add _ _) ?_
  refine hs 474 _ _ _ _ dL_law_474 (by omega) ?_
  refine r_aload_n (pc := 475) h dL_law_475 rfl ?_
  refine r_iload_n (pc := 476) h dL_law_476 rfl ?_
  refine r_iconst (pc := 477) h dL_law_477 ci_2 ?_
  refine r_iadd (pc := 478) h dL_law_478 ?_
  refine r_top (y := nI (i + 2)) h (nI_add _ _) ?_
  refine hs 479 _ _ _ _ dL_law_479 (by omega) ?_
  refine r_callVi (pc := 480) (As := [_, _]) h dL_law_480 k_L_55 gc_35 rfl ⟨Nat.le_of_ble_eq_true rfl, Nat.le_of_ble_eq_true rfl, Nat.le_of_ble_eq_true rfl⟩ (y_soothes hM1 hN1 ho hd _ _) (fun x_480 g2 hq => ?_)
  obtain ⟨hy1, hM2, hN2, hF2⟩ := hq
  have hR2 := hR1.fy hF2
  have hX2 := hX1.fy hF2
  refine r_icmp_eq (pc := 483) (tgt := 1290) h dL_law_483 (by decide) (fun c483 => ?_) (fun c483 => absurd (hx1.trans hy1.symm) c483)
  exact kt _ ⟨_, _, _, _, _, _, _, _, hR2, hX2, hM2, hN2, p_soothes hgk, hck⟩
set_option maxRecDepth 100000 in
set_option maxHeartbeats 4000000 in
theorem lk_turn {G : gJ} {xs : Nat → Int32} {L : Nat} (h : gR RL cL_law 12 458 G) (hs : ∀ (pc : Nat) (ls st : List Value) (g : gG) (i : Nat), decode cL_law pc = .ok (.iaload, 1) → i < L → G (pc + 1) ls (.int (xs i) :: st) g → G pc ls (.int (nI i) :: .ref 200 :: st) g) {i : Nat} (hi : i + 6 ≤ L) {g : gG} (hI : Inv g) (kt : ∀ g1, Inv g1 → G 1290 [.ref 200, .ref 0, .ref 35, .int (nI i)] [] g1) : G 488 [.ref 200, .ref 0, .ref 35, .int (nI i)] [] g := by
  obtain ⟨c, ck, hk, lt, nl, rv, nr, rf, hR, hX, hM, hN, ⟨ho, hd⟩, hck⟩ := hI
  have hgk : gk c := ⟨ho, hd⟩
  refine r_aload_n (pc := 488) h dL_law_488 rfl ?_
  refine r_aload_n (pc := 489) h dL_law_489 rfl ?_
  refine r_iload_n (pc := 490) h dL_law_490 rfl ?_
  refine r_iconst (pc := 491) h dL_law_491 ci_1 ?_
  refine r_iadd (pc := 492) h dL_law_492 ?_
  refine r_top (y := nI (i + 1)) h (nI_add _ _) ?_
  refine hs 493 _ _ _ _ dL_law_493 (by omega) ?_
  refine r_aload_n (pc := 494) h dL_law_494 rfl ?_
  refine r_iload_n (pc := 495) h dL_law_495 rfl ?_
  refine r_iconst (pc := 496) h dL_law_496 ci_2 ?_
  refine r_iadd (pc := 497) h dL_law_497 ?_
  refine r_top (y := nI (i + 2)) h (nI_add _ _) ?_
  refine hs 498 _ _ _ _ dL_law_498 (by omega) ?_
  refine r_aload_n (pc := 499) h dL_law_499 rfl ?_
  refine r_iload_n (pc := 500) h dL_law_500 rfl ?_
  refine r_iconst (pc := 501) h dL_law_501 ci_3 ?_
  refine r_iadd (pc := 502) h dL_law_502 ?_
  refine r_top (y := nI (i + 3)) h (nI_add _ _) ?_
  refine hs 503 _ _ _ _ dL_law_503 (by omega) ?_
  refine r_callVi (pc := 504) (As := [_, _, _]) h dL_law_504 k_L_56 gc_0 rfl ⟨Nat.le_of_ble_eq_true rfl, Nat.le_of_ble_eq_true rfl, Nat.le_of_ble_eq_true rfl⟩ (x_turn hR hX ho hd _ _ _) (fun x_504 g1 hq => ?_)
  obtain ⟨hx1, hR1, hX1, hF1⟩ := hq
  have hM1 := hM.fx hF1
  have hN1 := hN.fx hF1
  refine r_aload_n (pc := 507) h dL_law_507 rfl ?_
  refine r_aload_n (pc := 508) h dL_law_508 rfl ?_
  refine r_iload_n (pc := 509) h dL_law_509 rfl ?_
  refine r_iconst (pc := 510) h dL_law_510 ci_1 ?_
  refine r_iadd (pc := 511) h dL_law_511 ?_
  refine r_top (y := nI (i + 1)) h (nI_add _ _) ?_
  refine hs 512 _ _ _ _ dL_law_512 (by omega) ?_
  refine r_aload_n (pc := 513) h dL_law_513 rfl ?_
  refine r_iload_n (pc := 514) h dL_law_514 rfl ?_
  refine r_iconst (pc := 515) h dL_law_515 ci_2 ?_
  refine r_iadd (pc := 516) h dL_law_516 ?_
  refine r_top (y := nI (i + 2)) h (nI_add _ _) ?_
  refine hs 517 _ _ _ _ dL_law_517 (by omega) ?_
  refine r_aload_n (pc := 518) h dL_law_518 rfl ?_
  refine r_iload_n (pc := 519) h dL_law_519 rfl ?_
  refine r_iconst (pc := 520) h dL_law_520 ci_3 ?_
  refine r_iadd (pc := 521) h dL_law_521 ?_
  refine r_top (y := nI (i + 3)) h (nI_add _ _) ?_
  refine hs 522 _ _ _ _ dL_law_522 (by omega) ?_
  refine r_callVi (pc := 523) (As := [_, _, _]) h dL_law_523 k_L_60 gc_35 rfl ⟨Nat.le_of_ble_eq_true rfl, Nat.le_of_ble_eq_true rfl, Nat.le_of_ble_eq_true rfl⟩ (y_turn hM1 hN1 ho hd _ _ _) (fun x_523 g2 hq => ?_)
  obtain ⟨hy1, hM2, hN2, hF2⟩ := hq
  have hR2 := hR1.fy hF2
  have hX2 := hX1.fy hF2
  refine r_icmp_eq (pc := 526) (tgt := 1290) h dL_law_526 (by decide) (fun c526 => ?_) (fun c526 => absurd (hx1.trans hy1.symm) c526)
  exact kt _ ⟨_, _, _, _, _, _, _, _, hR2, hX2, hM2, hN2, p_turn hgk, hck⟩
set_option maxRecDepth 100000 in
set_option maxHeartbeats 4000000 in
theorem lk_days {G : gJ} {xs : Nat → Int32} {L : Nat} (h : gR RL cL_law 12 458 G) (hs : ∀ (pc : Nat) (ls st : List Value) (g : gG) (i : Nat), decode cL_law pc = .ok (.iaload, 1) → i < L → G (pc + 1) ls (.int (xs i) :: st) g → G pc ls (.int (nI i) :: .ref 200 :: st) g) {i : Nat} (hi : i + 6 ≤ L) {g : gG} (hI : Inv g) (kt : ∀ g1, Inv g1 → G 1290 [.ref 200, .ref 0, .ref 35, .int (nI i)] [] g1) : G 531 [.ref 200, .ref 0, .ref 35, .int (nI i)] [] g := by
  obtain ⟨c, ck, hk, lt, nl, rv, nr, rf, hR, hX, hM, hN, ⟨ho, hd⟩, hck⟩ := hI
  have hgk : gk c := ⟨ho, hd⟩
  refine r_aload_n (pc := 531) h dL_law_531 rfl ?_
  refine r_aload_n (pc := 532) h dL_law_532 rfl ?_
  refine r_iload_n (pc := 533) h dL_law_533 rfl ?_
  refine r_iconst (pc := 534) h dL_law_534 ci_1 ?_
  refine r_iadd (pc := 535) h dL_law_535 ?_
  refine r_top (y := nI (i + 1)) h (nI_add _ _) ?_
  refine hs 536 _ _ _ _ dL_law_536 (by omega) ?_
  refine r_callVi (pc := 537) (As := [_]) h dL_law_537 k_L_61 gc_0 rfl ⟨Nat.le_of_ble_eq_true rfl, Nat.le_of_ble_eq_true rfl, Nat.le_of_ble_eq_true rfl⟩ (x_days hR hX ho hd _) (fun x_537 g1 hq => ?_)
  obtain ⟨hx1, hR1, hX1, hF1⟩ := hq
  have hM1 := hM.fx hF1
  have hN1 := hN.fx hF1
  refine r_aload_n (pc := 540) h dL_law_540 rfl ?_
  refine r_aload_n (pc := 541) h dL_law_541 rfl ?_
  refine r_iload_n (pc := 542) h dL_law_542 rfl ?_
  refine r_iconst (pc := 543) h dL_law_543 ci_1 ?_
  refine r_iadd (pc := 544) h dL_law_544 ?_
  refine r_top (y := nI (i + 1)) h (nI_add _ _) ?_
  refine hs 545 _ _ _ _ dL_law_545 (by omega) ?_
  refine r_callVi (pc := 546) (As := [_]) h dL_law_546 k_L_64 gc_35 rfl ⟨Nat.le_of_ble_eq_true rfl, Nat.le_of_ble_eq_true rfl, Nat.le_of_ble_eq_true rfl⟩ (y_days hM1 hN1 ho hd _) (fun x_546 g2 hq => ?_)
  obtain ⟨hy1, hM2, hN2, hF2⟩ := hq
  have hR2 := hR1.fy hF2
  have hX2 := hX1.fy hF2
  refine r_icmp_eq (pc := 549) (tgt := 1290) h dL_law_549 (by decide) (fun c549 => ?_) (fun c549 => absurd (hx1.trans hy1.symm) c549)
  exact kt _ ⟨_, _, _, _, _, _, _, _, hR2, hX2, hM2, hN2, p_days hgk, hck⟩
set_option maxRecDepth 100000 in
set_option maxHeartbeats 4000000 in
theorem lk_callerThen {G : gJ} {xs : Nat → Int32} {L : Nat} (h : gR RL cL_law 12 458 G) (hs : ∀ (pc : Nat) (ls st : List Value) (g : gG) (i : Nat), decode cL_law pc = .ok (.iaload, 1) → i < L → G (pc + 1) ls (.int (xs i) :: st) g → G pc ls (.int (nI i) :: .ref 200 :: st) g) {i : Nat} (hi : i + 6 ≤ L) {g : gG} (hI : Inv g) (kt : ∀ g1, Inv g1 → G 1290 [.ref 200, .ref 0, .ref 35, .int (nI i)] [] g1) : G 554 [.ref 200, .ref 0, .ref 35, .int (nI i)] [] g := by
  obtain ⟨c, ck, hk, lt, nl, rv, nr, rf, hR, hX, hM, hN, ⟨ho, hd⟩, hck⟩ := hI
  have hgk : gk c := ⟨ho, hd⟩
  refine r_aload_n (pc := 554) h dL_law_554 rfl ?_
  refine r_aload_n (pc := 555) h dL_law_555 rfl ?_
  refine r_iload_n (pc := 556) h dL_law_556 rfl ?_
  refine r_iconst (pc := 557) h dL_law_557 ci_1 ?_
  refine r_iadd (pc := 558) h dL_law_558 ?_
  refine r_top (y := nI (i + 1)) h (nI_add _ _) ?_
  refine hs 559 _ _ _ _ dL_law_559 (by omega) ?_
  refine r_aload_n (pc := 560) h dL_law_560 rfl ?_
  refine r_iload_n (pc := 561) h dL_law_561 rfl ?_
  refine r_iconst (pc := 562) h dL_law_562 ci_2 ?_
  refine r_iadd (pc := 563) h dL_law_563 ?_
  refine r_top (y := nI (i + 2)) h (nI_add _ _) ?_
  refine hs 564 _ _ _ _ dL_law_564 (by omega) ?_
  refine r_aload_n (pc := 565) h dL_law_565 rfl ?_
  refine r_iload_n (pc := 566) h dL_law_566 rfl ?_
  refine r_iconst (pc := 567) h dL_law_567 ci_3 ?_
  refine r_iadd (pc := 568) h dL_law_568 ?_
  refine r_top (y := nI (i + 3)) h (nI_add _ _) ?_
  refine hs 569 _ _ _ _ dL_law_569 (by omega) ?_
  refine r_callVi (pc := 570) (As := [_, _, _]) h dL_law_570 k_L_65 gc_0 rfl ⟨Nat.le_of_ble_eq_true rfl, Nat.le_of_ble_eq_true rfl, Nat.le_of_ble_eq_true rfl⟩ (x_callerThen hR hX ho hd _ _ _) (fun x_570 g1 hq => ?_)
  obtain ⟨hx1, hR1, hX1, hF1⟩ := hq
  have hM1 := hM.fx hF1
  have hN1 := hN.fx hF1
  refine r_aload_n (pc := 573) h dL_law_573 rfl ?_
  refine r_aload_n (pc := 574) h dL_law_574 rfl ?_
  refine r_iload_n (pc := 575) h dL_law_575 rfl ?_
  refine r_iconst (pc := 576) h dL_law_576 ci_1 ?_
  refine r_iadd (pc := 577) h dL_law_577 ?_
  refine r_top (y := nI (i + 1)) h (nI_add _ _) ?_
  refine hs 578 _ _ _ _ dL_law_578 (by omega) ?_
  refine r_aload_n (pc := 579) h dL_law_579 rfl ?_
  refine r_iload_n (pc := 580) h dL_law_580 rfl ?_
  refine r_iconst (pc := 581) h dL_law_581 ci_2 ?_
  refine r_iadd (pc := 582) h dL_law_582 ?_
  refine r_top (y := nI (i + 2)) h (nI_add _ _) ?_
  refine hs 583 _ _ _ _ dL_law_583 (by omega) ?_
  refine r_aload_n (pc := 584) h dL_law_584 rfl ?_
  refine r_iload_n (pc := 585) h dL_law_585 rfl ?_
  refine r_iconst (pc := 586) h dL_law_586 ci_3 ?_
  refine r_iadd (pc := 587) h dL_law_587 ?_
  refine r_top (y := nI (i + 3)) h (nI_add _ _) ?_
  refine hs 588 _ _ _ _ dL_law_588 (by omega) ?_
  refine r_callVi (pc := 589) (As := [_, _, _]) h dL_law_589 k_L_68 gc_35 rfl ⟨Nat.le_of_ble_eq_true rfl, Nat.le_of_ble_eq_true rfl, Nat.le_of_ble_eq_true rfl⟩ (y_callerThen hM1 hN1 ho hd _ _ _) (fun x_589 g2 hq => ?_)
  obtain ⟨hy1, hM2, hN2, hF2⟩ := hq
  have hR2 := hR1.fy hF2
  have hX2 := hX1.fy hF2
  refine r_icmp_eq (pc := 592) (tgt := 1290) h dL_law_592 (by decide) (fun c592 => ?_) (fun c592 => absurd (hx1.trans hy1.symm) c592)
  exact kt _ ⟨_, _, _, _, _, _, _, _, hR2, hX2, hM2, hN2, hgk, hck⟩
set_option maxRecDepth 100000 in
set_option maxHeartbeats 4000000 in
theorem lk_suitThen {G : gJ} {xs : Nat → Int32} {L : Nat} (h : gR RL cL_law 12 458 G) (hs : ∀ (pc : Nat) (ls st : List Value) (g : gG) (i : Nat), decode cL_law pc = .ok (.iaload, 1) → i < L → G (pc + 1) ls (.int (xs i) :: st) g → G pc ls (.int (nI i) :: .ref 200 :: st) g) {i : Nat} (hi : i + 6 ≤ L) {g : gG} (hI : Inv g) (kt : ∀ g1, Inv g1 → G 1290 [.ref 200, .ref 0, .ref 35, .int (nI i)] [] g1) : G 597 [.ref 200, .ref 0, .ref 35, .int (nI i)] [] g := by
  obtain ⟨c, ck, hk, lt, nl, rv, nr, rf, hR, hX, hM, hN, ⟨ho, hd⟩, hck⟩ := hI
  have hgk : gk c := ⟨ho, hd⟩
  refine r_aload_n (pc := 597) h dL_law_597 rfl ?_
  refine r_aload_n (pc := 598) h dL_law_598 rfl ?_
  refine r_iload_n (pc := 599) h dL_law_599 rfl ?_
  refine r_iconst (pc := 600) h dL_law_600 ci_1 ?_
  refine r_iadd (pc := 601) h dL_law_601 ?_
  refine r_top (y := nI (i + 1)) h (nI_add _ _) ?_
  refine hs 602 _ _ _ _ dL_law_602 (by omega) ?_
  refine r_aload_n (pc := 603) h dL_law_603 rfl ?_
  refine r_iload_n (pc := 604) h dL_law_604 rfl ?_
  refine r_iconst (pc := 605) h dL_law_605 ci_2 ?_
  refine r_iadd (pc := 606) h dL_law_606 ?_
  refine r_top (y := nI (i + 2)) h (nI_add _ _) ?_
  refine hs 607 _ _ _ _ dL_law_607 (by omega) ?_
  refine r_callVi (pc := 608) (As := [_, _]) h dL_law_608 k_L_69 gc_0 rfl ⟨Nat.le_of_ble_eq_true rfl, Nat.le_of_ble_eq_true rfl, Nat.le_of_ble_eq_true rfl⟩ (x_suitThen hR hX ho hd _ _) (fun x_608 g1 hq => ?_)
  obtain ⟨hx1, hR1, hX1, hF1⟩ := hq
  have hM1 := hM.fx hF1
  have hN1 := hN.fx hF1
  refine r_aload_n (pc := 611) h dL_law_611 rfl ?_
  refine r_aload_n (pc := 612) h dL_law_612 rfl ?_
  refine r_iload_n (pc := 613) h dL_law_613 rfl ?_
  refine r_iconst (pc := 614) h dL_law_614 ci_1 ?_
  refine r_iadd (pc := 615) h dL_law_615 ?_
  refine r_top (y := nI (i + 1)) h (nI_add _ _) ?_
  refine hs 616 _ _ _ _ dL_law_616 (by omega) ?_
  refine r_aload_n (pc := 617) h dL_law_617 rfl ?_
  refine r_iload_n (pc := 618) h dL_law_618 rfl ?_
  refine r_iconst (pc := 619) h dL_law_619 ci_2 ?_
  refine r_iadd (pc := 620) h dL_law_620 ?_
  refine r_top (y := nI (i + 2)) h (nI_add _ _) ?_
  refine hs 621 _ _ _ _ dL_law_621 (by omega) ?_
  refine r_callVi (pc := 622) (As := [_, _]) h dL_law_622 k_L_72 gc_35 rfl ⟨Nat.le_of_ble_eq_true rfl, Nat.le_of_ble_eq_true rfl, Nat.le_of_ble_eq_true rfl⟩ (y_suitThen hM1 hN1 ho hd _ _) (fun x_622 g2 hq => ?_)
  obtain ⟨hy1, hM2, hN2, hF2⟩ := hq
  have hR2 := hR1.fy hF2
  have hX2 := hX1.fy hF2
  refine r_icmp_eq (pc := 625) (tgt := 1290) h dL_law_625 (by decide) (fun c625 => ?_) (fun c625 => absurd (hx1.trans hy1.symm) c625)
  exact kt _ ⟨_, _, _, _, _, _, _, _, hR2, hX2, hM2, hN2, hgk, hck⟩
set_option maxRecDepth 100000 in
set_option maxHeartbeats 4000000 in
theorem lk_cost {G : gJ} {xs : Nat → Int32} {L : Nat} (h : gR RL cL_law 12 458 G) (hs : ∀ (pc : Nat) (ls st : List Value) (g : gG) (i : Nat), decode cL_law pc = .ok (.iaload, 1) → i < L → G (pc + 1) ls (.int (xs i) :: st) g → G pc ls (.int (nI i) :: .ref 200 :: st) g) {i : Nat} (hi : i + 6 ≤ L) {g : gG} (hI : Inv g) (kt : ∀ g1, Inv g1 → G 1290 [.ref 200, .ref 0, .ref 35, .int (nI i)] [] g1) : G 630 [.ref 200, .ref 0, .ref 35, .int (nI i)] [] g := by
  obtain ⟨c, ck, hk, lt, nl, rv, nr, rf, hR, hX, hM, hN, ⟨ho, hd⟩, hck⟩ := hI
  have hgk : gk c := ⟨ho, hd⟩
  refine r_aload_n (pc := 630) h dL_law_630 rfl ?_
  refine r_aload_n (pc := 631) h dL_law_631 rfl ?_
  refine r_iload_n (pc := 632) h dL_law_632 rfl ?_
  refine r_iconst (pc := 633) h dL_law_633 ci_1 ?_
  refine r_iadd (pc := 634) h dL_law_634 ?_
  refine r_top (y := nI (i + 1)) h (nI_add _ _) ?_
  refine hs 635 _ _ _ _ dL_law_635 (by omega) ?_
  refine r_callVi (pc := 636) (As := [_]) h dL_law_636 k_L_73 gc_0 rfl ⟨Nat.le_of_ble_eq_true rfl, Nat.le_of_ble_eq_true rfl, Nat.le_of_ble_eq_true rfl⟩ (x_cost hR hX ho hd _) (fun x_636 g1 hq => ?_)
  obtain ⟨hx1, hR1, hX1, hF1⟩ := hq
  have hM1 := hM.fx hF1
  have hN1 := hN.fx hF1
  refine r_aload_n (pc := 639) h dL_law_639 rfl ?_
  refine r_aload_n (pc := 640) h dL_law_640 rfl ?_
  refine r_iload_n (pc := 641) h dL_law_641 rfl ?_
  refine r_iconst (pc := 642) h dL_law_642 ci_1 ?_
  refine r_iadd (pc := 643) h dL_law_643 ?_
  refine r_top (y := nI (i + 1)) h (nI_add _ _) ?_
  refine hs 644 _ _ _ _ dL_law_644 (by omega) ?_
  refine r_callVi (pc := 645) (As := [_]) h dL_law_645 k_L_76 gc_35 rfl ⟨Nat.le_of_ble_eq_true rfl, Nat.le_of_ble_eq_true rfl, Nat.le_of_ble_eq_true rfl⟩ (y_cost hM1 hN1 ho hd _) (fun x_645 g2 hq => ?_)
  obtain ⟨hy1, hM2, hN2, hF2⟩ := hq
  have hR2 := hR1.fy hF2
  have hX2 := hX1.fy hF2
  refine r_icmp_eq (pc := 648) (tgt := 1290) h dL_law_648 (by decide) (fun c648 => ?_) (fun c648 => absurd (hx1.trans hy1.symm) c648)
  exact kt _ ⟨_, _, _, _, _, _, _, _, hR2, hX2, hM2, hN2, hgk, hck⟩
set_option maxRecDepth 100000 in
set_option maxHeartbeats 4000000 in
theorem lk_proposes {G : gJ} {xs : Nat → Int32} {L : Nat} (h : gR RL cL_law 12 458 G) (hs : ∀ (pc : Nat) (ls st : List Value) (g : gG) (i : Nat), decode cL_law pc = .ok (.iaload, 1) → i < L → G (pc + 1) ls (.int (xs i) :: st) g → G pc ls (.int (nI i) :: .ref 200 :: st) g) {i : Nat} (hi : i + 6 ≤ L) {g : gG} (hI : Inv g) (kt : ∀ g1, Inv g1 → G 1290 [.ref 200, .ref 0, .ref 35, .int (nI i)] [] g1) : G 653 [.ref 200, .ref 0, .ref 35, .int (nI i)] [] g := by
  obtain ⟨c, ck, hk, lt, nl, rv, nr, rf, hR, hX, hM, hN, ⟨ho, hd⟩, hck⟩ := hI
  have hgk : gk c := ⟨ho, hd⟩
  refine r_aload_n (pc := 653) h dL_law_653 rfl ?_
  refine r_aload_n (pc := 654) h dL_law_654 rfl ?_
  refine r_iload_n (pc := 655) h dL_law_655 rfl ?_
  refine r_iconst (pc := 656) h dL_law_656 ci_1 ?_
  refine r_iadd (pc := 657) h dL_law_657 ?_
  refine r_top (y := nI (i + 1)) h (nI_add _ _) ?_
  refine hs 658 _ _ _ _ dL_law_658 (by omega) ?_
  refine r_callVi (pc := 659) (As := [_]) h dL_law_659 k_L_77 gc_0 rfl ⟨Nat.le_of_ble_eq_true rfl, Nat.le_of_ble_eq_true rfl, Nat.le_of_ble_eq_true rfl⟩ (x_proposes hR hX ho hd _) (fun x_659 g1 hq => ?_)
  obtain ⟨hx1, hR1, hX1, hF1⟩ := hq
  have hM1 := hM.fx hF1
  have hN1 := hN.fx hF1
  refine r_aload_n (pc := 662) h dL_law_662 rfl ?_
  refine r_aload_n (pc := 663) h dL_law_663 rfl ?_
  refine r_iload_n (pc := 664) h dL_law_664 rfl ?_
  refine r_iconst (pc := 665) h dL_law_665 ci_1 ?_
  refine r_iadd (pc := 666) h dL_law_666 ?_
  refine r_top (y := nI (i + 1)) h (nI_add _ _) ?_
  refine hs 667 _ _ _ _ dL_law_667 (by omega) ?_
  refine r_callVi (pc := 668) (As := [_]) h dL_law_668 k_L_80 gc_35 rfl ⟨Nat.le_of_ble_eq_true rfl, Nat.le_of_ble_eq_true rfl, Nat.le_of_ble_eq_true rfl⟩ (y_proposes hM1 hN1 ho hd _) (fun x_668 g2 hq => ?_)
  obtain ⟨hy1, hM2, hN2, hF2⟩ := hq
  have hR2 := hR1.fy hF2
  have hX2 := hX1.fy hF2
  refine r_icmp_eq (pc := 671) (tgt := 1290) h dL_law_671 (by decide) (fun c671 => ?_) (fun c671 => absurd (hx1.trans hy1.symm) c671)
  exact kt _ ⟨_, _, _, _, _, _, _, _, hR2, hX2, hM2, hN2, hgk, hck⟩
set_option maxRecDepth 100000 in
set_option maxHeartbeats 4000000 in
theorem lk_out {G : gJ} {xs : Nat → Int32} {L : Nat} (h : gR RL cL_law 12 458 G) (hs : ∀ (pc : Nat) (ls st : List Value) (g : gG) (i : Nat), decode cL_law pc = .ok (.iaload, 1) → i < L → G (pc + 1) ls (.int (xs i) :: st) g → G pc ls (.int (nI i) :: .ref 200 :: st) g) {i : Nat} (hi : i + 6 ≤ L) {g : gG} (hI : Inv g) (kt : ∀ g1, Inv g1 → G 1290 [.ref 200, .ref 0, .ref 35, .int (nI i)] [] g1) : G 676 [.ref 200, .ref 0, .ref 35, .int (nI i)] [] g := by
  obtain ⟨c, ck, hk, lt, nl, rv, nr, rf, hR, hX, hM, hN, ⟨ho, hd⟩, hck⟩ := hI
  have hgk : gk c := ⟨ho, hd⟩
  refine r_aload_n (pc := 676) h dL_law_676 rfl ?_
  refine r_aload_n (pc := 677) h dL_law_677 rfl ?_
  refine r_iload_n (pc := 678) h dL_law_678 rfl ?_
  refine r_iconst (pc := 679) h dL_law_679 ci_1 ?_
  refine r_iadd (pc := 680) h dL_law_680 ?_
  refine r_top (y := nI (i + 1)) h (nI_add _ _) ?_
  refine hs 681 _ _ _ _ dL_law_681 (by omega) ?_
  refine r_callVi (pc := 682) (As := [_]) h dL_law_682 k_L_81 gc_0 rfl ⟨Nat.le_of_ble_eq_true rfl, Nat.le_of_ble_eq_true rfl, Nat.le_of_ble_eq_true rfl⟩ (x_out hR hX ho hd _) (fun x_682 g1 hq => ?_)
  obtain ⟨hx1, hR1, hX1, hF1⟩ := hq
  have hM1 := hM.fx hF1
  have hN1 := hN.fx hF1
  refine r_aload_n (pc := 685) h dL_law_685 rfl ?_
  refine r_aload_n (pc := 686) h dL_law_686 rfl ?_
  refine r_iload_n (pc := 687) h dL_law_687 rfl ?_
  refine r_iconst (pc := 688) h dL_law_688 ci_1 ?_
  refine r_iadd (pc := 689) h dL_law_689 ?_
  refine r_top (y := nI (i + 1)) h (nI_add _ _) ?_
  refine hs 690 _ _ _ _ dL_law_690 (by omega) ?_
  refine r_callVi (pc := 691) (As := [_]) h dL_law_691 k_L_84 gc_35 rfl ⟨Nat.le_of_ble_eq_true rfl, Nat.le_of_ble_eq_true rfl, Nat.le_of_ble_eq_true rfl⟩ (y_out hM1 hN1 ho hd _) (fun x_691 g2 hq => ?_)
  obtain ⟨hy1, hM2, hN2, hF2⟩ := hq
  have hR2 := hR1.fy hF2
  have hX2 := hX1.fy hF2
  refine r_icmp_eq (pc := 694) (tgt := 1290) h dL_law_694 (by decide) (fun c694 => ?_) (fun c694 => absurd (hx1.trans hy1.symm) c694)
  exact kt _ ⟨_, _, _, _, _, _, _, _, hR2, hX2, hM2, hN2, hgk, hck⟩
set_option maxRecDepth 100000 in
set_option maxHeartbeats 4000000 in
theorem lk_still {G : gJ} {xs : Nat → Int32} {L : Nat} (h : gR RL cL_law 12 458 G) (hs : ∀ (pc : Nat) (ls st : List Value) (g : gG) (i : Nat), decode cL_law pc = .ok (.iaload, 1) → i < L → G (pc + 1) ls (.int (xs i) :: st) g → G pc ls (.int (nI i) :: .ref 200 :: st) g) {i : Nat} (hi : i + 6 ≤ L) {g : gG} (hI : Inv g) (kt : ∀ g1, Inv g1 → G 1290 [.ref 200, .ref 0, .ref 35, .int (nI i)] [] g1) : G 699 [.ref 200, .ref 0, .ref 35, .int (nI i)] [] g := by
  obtain ⟨c, ck, hk, lt, nl, rv, nr, rf, hR, hX, hM, hN, ⟨ho, hd⟩, hck⟩ := hI
  have hgk : gk c := ⟨ho, hd⟩
  refine r_aload_n (pc := 699) h dL_law_699 rfl ?_
  refine r_callVi (pc := 700) (As := []) h dL_law_700 k_L_85 gc_0 rfl ⟨Nat.le_of_ble_eq_true rfl, Nat.le_of_ble_eq_true rfl, Nat.le_of_ble_eq_true rfl⟩ (x_still hR hX ho hd) (fun x_700 g1 hq => ?_)
  obtain ⟨hx1, hR1, hX1, hF1⟩ := hq
  have hM1 := hM.fx hF1
  have hN1 := hN.fx hF1
  refine r_aload_n (pc := 703) h dL_law_703 rfl ?_
  refine r_callVi (pc := 704) (As := []) h dL_law_704 k_L_88 gc_35 rfl ⟨Nat.le_of_ble_eq_true rfl, Nat.le_of_ble_eq_true rfl, Nat.le_of_ble_eq_true rfl⟩ (y_still hM1 hN1 ho hd) (fun x_704 g2 hq => ?_)
  obtain ⟨hy1, hM2, hN2, hF2⟩ := hq
  have hR2 := hR1.fy hF2
  have hX2 := hX1.fy hF2
  refine r_icmp_eq (pc := 707) (tgt := 1290) h dL_law_707 (by decide) (fun c707 => ?_) (fun c707 => absurd (hx1.trans hy1.symm) c707)
  exact kt _ ⟨_, _, _, _, _, _, _, _, hR2, hX2, hM2, hN2, hgk, hck⟩
set_option maxRecDepth 100000 in
set_option maxHeartbeats 4000000 in
theorem lk_dress {G : gJ} {xs : Nat → Int32} {L : Nat} (h : gR RL cL_law 12 458 G) (hs : ∀ (pc : Nat) (ls st : List Value) (g : gG) (i : Nat), decode cL_law pc = .ok (.iaload, 1) → i < L → G (pc + 1) ls (.int (xs i) :: st) g → G pc ls (.int (nI i) :: .ref 200 :: st) g) {i : Nat} (hi : i + 6 ≤ L) {g : gG} (hI : Inv g) (kt : ∀ g1, Inv g1 → G 1290 [.ref 200, .ref 0, .ref 35, .int (nI i)] [] g1) : G 712 [.ref 200, .ref 0, .ref 35, .int (nI i)] [] g := by
  obtain ⟨c, ck, hk, lt, nl, rv, nr, rf, hR, hX, hM, hN, ⟨ho, hd⟩, hck⟩ := hI
  have hgk : gk c := ⟨ho, hd⟩
  refine r_aload_n (pc := 712) h dL_law_712 rfl ?_
  refine r_aload_n (pc := 713) h dL_law_713 rfl ?_
  refine r_iload_n (pc := 714) h dL_law_714 rfl ?_
  refine r_iconst (pc := 715) h dL_law_715 ci_1 ?_
  refine r_iadd (pc := 716) h dL_law_716 ?_
  refine r_top (y := nI (i + 1)) h (nI_add _ _) ?_
  refine hs 717 _ _ _ _ dL_law_717 (by omega) ?_
  refine r_callVi (pc := 718) (As := [_]) h dL_law_718 k_L_89 gc_0 rfl ⟨Nat.le_of_ble_eq_true rfl, Nat.le_of_ble_eq_true rfl, Nat.le_of_ble_eq_true rfl⟩ (x_dress hR hX ho hd _) (fun x_718 g1 hq => ?_)
  obtain ⟨hx1, hR1, hX1, hF1⟩ := hq
  have hM1 := hM.fx hF1
  have hN1 := hN.fx hF1
  refine r_aload_n (pc := 721) h dL_law_721 rfl ?_
  refine r_aload_n (pc := 722) h dL_law_722 rfl ?_
  refine r_iload_n (pc := 723) h dL_law_723 rfl ?_
  refine r_iconst (pc := 724) h dL_law_724 ci_1 ?_
  refine r_iadd (pc := 725) h dL_law_725 ?_
  refine r_top (y := nI (i + 1)) h (nI_add _ _) ?_
  refine hs 726 _ _ _ _ dL_law_726 (by omega) ?_
  refine r_callVi (pc := 727) (As := [_]) h dL_law_727 k_L_92 gc_35 rfl ⟨Nat.le_of_ble_eq_true rfl, Nat.le_of_ble_eq_true rfl, Nat.le_of_ble_eq_true rfl⟩ (y_dress hM1 hN1 ho hd _) (fun x_727 g2 hq => ?_)
  obtain ⟨hy1, hM2, hN2, hF2⟩ := hq
  have hR2 := hR1.fy hF2
  have hX2 := hX1.fy hF2
  refine r_icmp_eq (pc := 730) (tgt := 1290) h dL_law_730 (by decide) (fun c730 => ?_) (fun c730 => absurd (hx1.trans hy1.symm) c730)
  exact kt _ ⟨_, _, _, _, _, _, _, _, hR2, hX2, hM2, hN2, hgk, hck⟩
set_option maxRecDepth 100000 in
set_option maxHeartbeats 4000000 in
theorem lk_suitBest {G : gJ} {xs : Nat → Int32} {L : Nat} (h : gR RL cL_law 12 458 G) (hs : ∀ (pc : Nat) (ls st : List Value) (g : gG) (i : Nat), decode cL_law pc = .ok (.iaload, 1) → i < L → G (pc + 1) ls (.int (xs i) :: st) g → G pc ls (.int (nI i) :: .ref 200 :: st) g) {i : Nat} (hi : i + 6 ≤ L) {g : gG} (hI : Inv g) (kt : ∀ g1, Inv g1 → G 1290 [.ref 200, .ref 0, .ref 35, .int (nI i)] [] g1) : G 735 [.ref 200, .ref 0, .ref 35, .int (nI i)] [] g := by
  obtain ⟨c, ck, hk, lt, nl, rv, nr, rf, hR, hX, hM, hN, ⟨ho, hd⟩, hck⟩ := hI
  have hgk : gk c := ⟨ho, hd⟩
  refine r_aload_n (pc := 735) h dL_law_735 rfl ?_
  refine r_aload_n (pc := 736) h dL_law_736 rfl ?_
  refine r_iload_n (pc := 737) h dL_law_737 rfl ?_
  refine r_iconst (pc := 738) h dL_law_738 ci_1 ?_
  refine r_iadd (pc := 739) h dL_law_739 ?_
  refine r_top (y := nI (i + 1)) h (nI_add _ _) ?_
  refine hs 740 _ _ _ _ dL_law_740 (by omega) ?_
  refine r_aload_n (pc := 741) h dL_law_741 rfl ?_
  refine r_iload_n (pc := 742) h dL_law_742 rfl ?_
  refine r_iconst (pc := 743) h dL_law_743 ci_2 ?_
  refine r_iadd (pc := 744) h dL_law_744 ?_
  refine r_top (y := nI (i + 2)) h (nI_add _ _) ?_
  refine hs 745 _ _ _ _ dL_law_745 (by omega) ?_
  refine r_aload_n (pc := 746) h dL_law_746 rfl ?_
  refine r_iload_n (pc := 747) h dL_law_747 rfl ?_
  refine r_iconst (pc := 748) h dL_law_748 ci_3 ?_
  refine r_iadd (pc := 749) h dL_law_749 ?_
  refine r_top (y := nI (i + 3)) h (nI_add _ _) ?_
  refine hs 750 _ _ _ _ dL_law_750 (by omega) ?_
  refine r_callVi (pc := 751) (As := [_, _, _]) h dL_law_751 k_L_93 gc_0 rfl ⟨Nat.le_of_ble_eq_true rfl, Nat.le_of_ble_eq_true rfl, Nat.le_of_ble_eq_true rfl⟩ (x_suitBest hR hX ho hd _ _ _) (fun x_751 g1 hq => ?_)
  obtain ⟨hx1, hR1, hX1, hF1⟩ := hq
  have hM1 := hM.fx hF1
  have hN1 := hN.fx hF1
  refine r_aload_n (pc := 754) h dL_law_754 rfl ?_
  refine r_aload_n (pc := 755) h dL_law_755 rfl ?_
  refine r_iload_n (pc := 756) h dL_law_756 rfl ?_
  refine r_iconst (pc := 757) h dL_law_757 ci_1 ?_
  refine r_iadd (pc := 758) h dL_law_758 ?_
  refine r_top (y := nI (i + 1)) h (nI_add _ _) ?_
  refine hs 759 _ _ _ _ dL_law_759 (by omega) ?_
  refine r_aload_n (pc := 760) h dL_law_760 rfl ?_
  refine r_iload_n (pc := 761) h dL_law_761 rfl ?_
  refine r_iconst (pc := 762) h dL_law_762 ci_2 ?_
  refine r_iadd (pc := 763) h dL_law_763 ?_
  refine r_top (y := nI (i + 2)) h (nI_add _ _) ?_
  refine hs 764 _ _ _ _ dL_law_764 (by omega) ?_
  refine r_aload_n (pc := 765) h dL_law_765 rfl ?_
  refine r_iload_n (pc := 766) h dL_law_766 rfl ?_
  refine r_iconst (pc := 767) h dL_law_767 ci_3 ?_
  refine r_iadd (pc := 768) h dL_law_768 ?_
  refine r_top (y := nI (i + 3)) h (nI_add _ _) ?_
  refine hs 769 _ _ _ _ dL_law_769 (by omega) ?_
  refine r_callVi (pc := 770) (As := [_, _, _]) h dL_law_770 k_L_96 gc_35 rfl ⟨Nat.le_of_ble_eq_true rfl, Nat.le_of_ble_eq_true rfl, Nat.le_of_ble_eq_true rfl⟩ (y_suitBest hM1 hN1 ho hd _ _ _) (fun x_770 g2 hq => ?_)
  obtain ⟨hy1, hM2, hN2, hF2⟩ := hq
  have hR2 := hR1.fy hF2
  have hX2 := hX1.fy hF2
  refine r_icmp_eq (pc := 773) (tgt := 1290) h dL_law_773 (by decide) (fun c773 => ?_) (fun c773 => absurd (hx1.trans hy1.symm) c773)
  exact kt _ ⟨_, _, _, _, _, _, _, _, hR2, hX2, hM2, hN2, hgk, hck⟩
set_option maxRecDepth 100000 in
set_option maxHeartbeats 4000000 in
theorem lk_change {G : gJ} {xs : Nat → Int32} {L : Nat} (h : gR RL cL_law 12 458 G) (hs : ∀ (pc : Nat) (ls st : List Value) (g : gG) (i : Nat), decode cL_law pc = .ok (.iaload, 1) → i < L → G (pc + 1) ls (.int (xs i) :: st) g → G pc ls (.int (nI i) :: .ref 200 :: st) g) {i : Nat} (hi : i + 6 ≤ L) {g : gG} (hI : Inv g) (kt : ∀ g1, Inv g1 → G 1290 [.ref 200, .ref 0, .ref 35, .int (nI i)] [] g1) : G 778 [.ref 200, .ref 0, .ref 35, .int (nI i)] [] g := by
  obtain ⟨c, ck, hk, lt, nl, rv, nr, rf, hR, hX, hM, hN, ⟨ho, hd⟩, hck⟩ := hI
  have hgk : gk c := ⟨ho, hd⟩
  refine r_aload_n (pc := 778) h dL_law_778 rfl ?_
  refine r_aload_n (pc := 779) h dL_law_779 rfl ?_
  refine r_iload_n (pc := 780) h dL_law_780 rfl ?_
  refine r_iconst (pc := 781) h dL_law_781 ci_1 ?_
  refine r_iadd (pc := 782) h dL_law_782 ?_
  refine r_top (y := nI (i + 1)) h (nI_add _ _) ?_
  refine hs 783 _ _ _ _ dL_law_783 (by omega) ?_
  refine r_callVi (pc := 784) (As := [_]) h dL_law_784 k_L_97 gc_0 rfl ⟨Nat.le_of_ble_eq_true rfl, Nat.le_of_ble_eq_true rfl, Nat.le_of_ble_eq_true rfl⟩ (x_change hR hX ho hd _) (fun x_784 g1 hq => ?_)
  obtain ⟨hx1, hR1, hX1, hF1⟩ := hq
  have hM1 := hM.fx hF1
  have hN1 := hN.fx hF1
  refine r_aload_n (pc := 787) h dL_law_787 rfl ?_
  refine r_aload_n (pc := 788) h dL_law_788 rfl ?_
  refine r_iload_n (pc := 789) h dL_law_789 rfl ?_
  refine r_iconst (pc := 790) h dL_law_790 ci_1 ?_
  refine r_iadd (pc := 791) h dL_law_791 ?_
  refine r_top (y := nI (i + 1)) h (nI_add _ _) ?_
  refine hs 792 _ _ _ _ dL_law_792 (by omega) ?_
  refine r_callVi (pc := 793) (As := [_]) h dL_law_793 k_L_100 gc_35 rfl ⟨Nat.le_of_ble_eq_true rfl, Nat.le_of_ble_eq_true rfl, Nat.le_of_ble_eq_true rfl⟩ (y_change hM1 hN1 ho hd _) (fun x_793 g2 hq => ?_)
  obtain ⟨hy1, hM2, hN2, hF2⟩ := hq
  have hR2 := hR1.fy hF2
  have hX2 := hX1.fy hF2
  refine r_icmp_eq (pc := 796) (tgt := 1290) h dL_law_796 (by decide) (fun c796 => ?_) (fun c796 => absurd (hx1.trans hy1.symm) c796)
  exact kt _ ⟨_, _, _, _, _, _, _, _, hR2, hX2, hM2, hN2, hgk, hck⟩
set_option maxRecDepth 100000 in
set_option maxHeartbeats 4000000 in
theorem lk_fewest {G : gJ} {xs : Nat → Int32} {L : Nat} (h : gR RL cL_law 12 458 G) (hs : ∀ (pc : Nat) (ls st : List Value) (g : gG) (i : Nat), decode cL_law pc = .ok (.iaload, 1) → i < L → G (pc + 1) ls (.int (xs i) :: st) g → G pc ls (.int (nI i) :: .ref 200 :: st) g) {i : Nat} (hi : i + 6 ≤ L) {g : gG} (hI : Inv g) (kt : ∀ g1, Inv g1 → G 1290 [.ref 200, .ref 0, .ref 35, .int (nI i)] [] g1) : G 801 [.ref 200, .ref 0, .ref 35, .int (nI i)] [] g := by
  obtain ⟨c, ck, hk, lt, nl, rv, nr, rf, hR, hX, hM, hN, ⟨ho, hd⟩, hck⟩ := hI
  have hgk : gk c := ⟨ho, hd⟩
  refine r_aload_n (pc := 801) h dL_law_801 rfl ?_
  refine r_aload_n (pc := 802) h dL_law_802 rfl ?_
  refine r_iload_n (pc := 803) h dL_law_803 rfl ?_
  refine r_iconst (pc := 804) h dL_law_804 ci_1 ?_
  refine r_iadd (pc := 805) h dL_law_805 ?_
  refine r_top (y := nI (i + 1)) h (nI_add _ _) ?_
  refine hs 806 _ _ _ _ dL_law_806 (by omega) ?_
  refine r_callVi (pc := 807) (As := [_]) h dL_law_807 k_L_101 gc_0 rfl ⟨Nat.le_of_ble_eq_true rfl, Nat.le_of_ble_eq_true rfl, Nat.le_of_ble_eq_true rfl⟩ (x_fewest hR hX ho hd _) (fun x_807 g1 hq => ?_)
  obtain ⟨hx1, hR1, hX1, hF1⟩ := hq
  have hM1 := hM.fx hF1
  have hN1 := hN.fx hF1
  refine r_aload_n (pc := 810) h dL_law_810 rfl ?_
  refine r_aload_n (pc := 811) h dL_law_811 rfl ?_
  refine r_iload_n (pc := 812) h dL_law_812 rfl ?_
  refine r_iconst (pc := 813) h dL_law_813 ci_1 ?_
  refine r_iadd (pc := 814) h dL_law_814 ?_
  refine r_top (y := nI (i + 1)) h (nI_add _ _) ?_
  refine hs 815 _ _ _ _ dL_law_815 (by omega) ?_
  refine r_callVi (pc := 816) (As := [_]) h dL_law_816 k_L_104 gc_35 rfl ⟨Nat.le_of_ble_eq_true rfl, Nat.le_of_ble_eq_true rfl, Nat.le_of_ble_eq_true rfl⟩ (y_fewest hM1 hN1 ho hd _) (fun x_816 g2 hq => ?_)
  obtain ⟨hy1, hM2, hN2, hF2⟩ := hq
  have hR2 := hR1.fy hF2
  have hX2 := hX1.fy hF2
  refine r_icmp_eq (pc := 819) (tgt := 1290) h dL_law_819 (by decide) (fun c819 => ?_) (fun c819 => absurd (hx1.trans hy1.symm) c819)
  exact kt _ ⟨_, _, _, _, _, _, _, _, hR2, hX2, hM2, hN2, hgk, hck⟩
set_option maxRecDepth 100000 in
set_option maxHeartbeats 4000000 in
theorem lk_spare {G : gJ} {xs : Nat → Int32} {L : Nat} (h : gR RL cL_law 12 458 G) (hs : ∀ (pc : Nat) (ls st : List Value) (g : gG) (i : Nat), decode cL_law pc = .ok (.iaload, 1) → i < L → G (pc + 1) ls (.int (xs i) :: st) g → G pc ls (.int (nI i) :: .ref 200 :: st) g) {i : Nat} (hi : i + 6 ≤ L) {g : gG} (hI : Inv g) (kt : ∀ g1, Inv g1 → G 1290 [.ref 200, .ref 0, .ref 35, .int (nI i)] [] g1) : G 824 [.ref 200, .ref 0, .ref 35, .int (nI i)] [] g := by
  obtain ⟨c, ck, hk, lt, nl, rv, nr, rf, hR, hX, hM, hN, ⟨ho, hd⟩, hck⟩ := hI
  have hgk : gk c := ⟨ho, hd⟩
  refine r_aload_n (pc := 824) h dL_law_824 rfl ?_
  refine r_aload_n (pc := 825) h dL_law_825 rfl ?_
  refine r_iload_n (pc := 826) h dL_law_826 rfl ?_
  refine r_iconst (pc := 827) h dL_law_827 ci_1 ?_
  refine r_iadd (pc := 828) h dL_law_828 ?_
  refine r_top (y := nI (i + 1)) h (nI_add _ _) ?_
  refine hs 829 _ _ _ _ dL_law_829 (by omega) ?_
  refine r_aload_n (pc := 830) h dL_law_830 rfl ?_
  refine r_iload_n (pc := 831) h dL_law_831 rfl ?_
  refine r_iconst (pc := 832) h dL_law_832 ci_2 ?_
  refine r_iadd (pc := 833) h dL_law_833 ?_
  refine r_top (y := nI (i + 2)) h (nI_add _ _) ?_
  refine hs 834 _ _ _ _ dL_law_834 (by omega) ?_
  refine r_callVi (pc := 835) (As := [_, _]) h dL_law_835 k_L_105 gc_0 rfl ⟨Nat.le_of_ble_eq_true rfl, Nat.le_of_ble_eq_true rfl, Nat.le_of_ble_eq_true rfl⟩ (x_spare hR hX ho hd _ _) (fun x_835 g1 hq => ?_)
  obtain ⟨hx1, hR1, hX1, hF1⟩ := hq
  have hM1 := hM.fx hF1
  have hN1 := hN.fx hF1
  refine r_aload_n (pc := 838) h dL_law_838 rfl ?_
  refine r_aload_n (pc := 839) h dL_law_839 rfl ?_
  refine r_iload_n (pc := 840) h dL_law_840 rfl ?_
  refine r_iconst (pc := 841) h dL_law_841 ci_1 ?_
  refine r_iadd (pc := 842) h dL_law_842 ?_
  refine r_top (y := nI (i + 1)) h (nI_add _ _) ?_
  refine hs 843 _ _ _ _ dL_law_843 (by omega) ?_
  refine r_aload_n (pc := 844) h dL_law_844 rfl ?_
  refine r_iload_n (pc := 845) h dL_law_845 rfl ?_
  refine r_iconst (pc := 846) h dL_law_846 ci_2 ?_
  refine r_iadd (pc := 847) h dL_law_847 ?_
  refine r_top (y := nI (i + 2)) h (nI_add _ _) ?_
  refine hs 848 _ _ _ _ dL_law_848 (by omega) ?_
  refine r_callVi (pc := 849) (As := [_, _]) h dL_law_849 k_L_108 gc_35 rfl ⟨Nat.le_of_ble_eq_true rfl, Nat.le_of_ble_eq_true rfl, Nat.le_of_ble_eq_true rfl⟩ (y_spare hM1 hN1 ho hd _ _) (fun x_849 g2 hq => ?_)
  obtain ⟨hy1, hM2, hN2, hF2⟩ := hq
  have hR2 := hR1.fy hF2
  have hX2 := hX1.fy hF2
  refine r_icmp_eq (pc := 852) (tgt := 1290) h dL_law_852 (by decide) (fun c852 => ?_) (fun c852 => absurd (hx1.trans hy1.symm) c852)
  exact kt _ ⟨_, _, _, _, _, _, _, _, hR2, hX2, hM2, hN2, hgk, hck⟩
set_option maxRecDepth 100000 in
set_option maxHeartbeats 4000000 in
theorem lk_cheer {G : gJ} {xs : Nat → Int32} {L : Nat} (h : gR RL cL_law 12 458 G) (hs : ∀ (pc : Nat) (ls st : List Value) (g : gG) (i : Nat), decode cL_law pc = .ok (.iaload, 1) → i < L → G (pc + 1) ls (.int (xs i) :: st) g → G pc ls (.int (nI i) :: .ref 200 :: st) g) {i : Nat} (hi : i + 6 ≤ L) {g : gG} (hI : Inv g) (kt : ∀ g1, Inv g1 → G 1290 [.ref 200, .ref 0, .ref 35, .int (nI i)] [] g1) : G 857 [.ref 200, .ref 0, .ref 35, .int (nI i)] [] g := by
  obtain ⟨c, ck, hk, lt, nl, rv, nr, rf, hR, hX, hM, hN, ⟨ho, hd⟩, hck⟩ := hI
  have hgk : gk c := ⟨ho, hd⟩
  refine r_aload_n (pc := 857) h dL_law_857 rfl ?_
  refine r_aload_n (pc := 858) h dL_law_858 rfl ?_
  refine r_iload_n (pc := 859) h dL_law_859 rfl ?_
  refine r_iconst (pc := 860) h dL_law_860 ci_1 ?_
  refine r_iadd (pc := 861) h dL_law_861 ?_
  refine r_top (y := nI (i + 1)) h (nI_add _ _) ?_
  refine hs 862 _ _ _ _ dL_law_862 (by omega) ?_
  refine r_callVi (pc := 863) (As := [_]) h dL_law_863 k_L_109 gc_0 rfl ⟨Nat.le_of_ble_eq_true rfl, Nat.le_of_ble_eq_true rfl, Nat.le_of_ble_eq_true rfl⟩ (x_cheer hR hX ho hd _) (fun x_863 g1 hq => ?_)
  obtain ⟨hx1, hR1, hX1, hF1⟩ := hq
  have hM1 := hM.fx hF1
  have hN1 := hN.fx hF1
  refine r_aload_n (pc := 866) h dL_law_866 rfl ?_
  refine r_aload_n (pc := 867) h dL_law_867 rfl ?_
  refine r_iload_n (pc := 868) h dL_law_868 rfl ?_
  refine r_iconst (pc := 869) h dL_law_869 ci_1 ?_
  refine r_iadd (pc := 870) h dL_law_870 ?_
  refine r_top (y := nI (i + 1)) h (nI_add _ _) ?_
  refine hs 871 _ _ _ _ dL_law_871 (by omega) ?_
  refine r_callVi (pc := 872) (As := [_]) h dL_law_872 k_L_112 gc_35 rfl ⟨Nat.le_of_ble_eq_true rfl, Nat.le_of_ble_eq_true rfl, Nat.le_of_ble_eq_true rfl⟩ (y_cheer hM1 hN1 ho hd _) (fun x_872 g2 hq => ?_)
  obtain ⟨hy1, hM2, hN2, hF2⟩ := hq
  have hR2 := hR1.fy hF2
  have hX2 := hX1.fy hF2
  refine r_icmp_eq (pc := 875) (tgt := 1290) h dL_law_875 (by decide) (fun c875 => ?_) (fun c875 => absurd (hx1.trans hy1.symm) c875)
  exact kt _ ⟨_, _, _, _, _, _, _, _, hR2, hX2, hM2, hN2, hgk, hck⟩
set_option maxRecDepth 100000 in
set_option maxHeartbeats 4000000 in
theorem lk_boldest {G : gJ} {xs : Nat → Int32} {L : Nat} (h : gR RL cL_law 12 458 G) (hs : ∀ (pc : Nat) (ls st : List Value) (g : gG) (i : Nat), decode cL_law pc = .ok (.iaload, 1) → i < L → G (pc + 1) ls (.int (xs i) :: st) g → G pc ls (.int (nI i) :: .ref 200 :: st) g) {i : Nat} (hi : i + 6 ≤ L) {g : gG} (hI : Inv g) (kt : ∀ g1, Inv g1 → G 1290 [.ref 200, .ref 0, .ref 35, .int (nI i)] [] g1) : G 880 [.ref 200, .ref 0, .ref 35, .int (nI i)] [] g := by
  obtain ⟨c, ck, hk, lt, nl, rv, nr, rf, hR, hX, hM, hN, ⟨ho, hd⟩, hck⟩ := hI
  have hgk : gk c := ⟨ho, hd⟩
  refine r_aload_n (pc := 880) h dL_law_880 rfl ?_
  refine r_aload_n (pc := 881) h dL_law_881 rfl ?_
  refine r_iload_n (pc := 882) h dL_law_882 rfl ?_
  refine r_iconst (pc := 883) h dL_law_883 ci_1 ?_
  refine r_iadd (pc := 884) h dL_law_884 ?_
  refine r_top (y := nI (i + 1)) h (nI_add _ _) ?_
  refine hs 885 _ _ _ _ dL_law_885 (by omega) ?_
  refine r_callVi (pc := 886) (As := [_]) h dL_law_886 k_L_113 gc_0 rfl ⟨Nat.le_of_ble_eq_true rfl, Nat.le_of_ble_eq_true rfl, Nat.le_of_ble_eq_true rfl⟩ (x_boldest hR hX ho hd _) (fun x_886 g1 hq => ?_)
  obtain ⟨hx1, hR1, hX1, hF1⟩ := hq
  have hM1 := hM.fx hF1
  have hN1 := hN.fx hF1
  refine r_aload_n (pc := 889) h dL_law_889 rfl ?_
  refine r_aload_n (pc := 890) h dL_law_890 rfl ?_
  refine r_iload_n (pc := 891) h dL_law_891 rfl ?_
  refine r_iconst (pc := 892) h dL_law_892 ci_1 ?_
  refine r_iadd (pc := 893) h dL_law_893 ?_
  refine r_top (y := nI (i + 1)) h (nI_add _ _) ?_
  refine hs 894 _ _ _ _ dL_law_894 (by omega) ?_
  refine r_callVi (pc := 895) (As := [_]) h dL_law_895 k_L_116 gc_35 rfl ⟨Nat.le_of_ble_eq_true rfl, Nat.le_of_ble_eq_true rfl, Nat.le_of_ble_eq_true rfl⟩ (y_boldest hM1 hN1 ho hd _) (fun x_895 g2 hq => ?_)
  obtain ⟨hy1, hM2, hN2, hF2⟩ := hq
  have hR2 := hR1.fy hF2
  have hX2 := hX1.fy hF2
  refine r_icmp_eq (pc := 898) (tgt := 1290) h dL_law_898 (by decide) (fun c898 => ?_) (fun c898 => absurd (hx1.trans hy1.symm) c898)
  exact kt _ ⟨_, _, _, _, _, _, _, _, hR2, hX2, hM2, hN2, hgk, hck⟩
set_option maxRecDepth 100000 in
set_option maxHeartbeats 4000000 in
theorem lk_left {G : gJ} {xs : Nat → Int32} {L : Nat} (h : gR RL cL_law 12 458 G) (hs : ∀ (pc : Nat) (ls st : List Value) (g : gG) (i : Nat), decode cL_law pc = .ok (.iaload, 1) → i < L → G (pc + 1) ls (.int (xs i) :: st) g → G pc ls (.int (nI i) :: .ref 200 :: st) g) {i : Nat} (hi : i + 6 ≤ L) {g : gG} (hI : Inv g) (kt : ∀ g1, Inv g1 → G 1290 [.ref 200, .ref 0, .ref 35, .int (nI i)] [] g1) : G 903 [.ref 200, .ref 0, .ref 35, .int (nI i)] [] g := by
  obtain ⟨c, ck, hk, lt, nl, rv, nr, rf, hR, hX, hM, hN, ⟨ho, hd⟩, hck⟩ := hI
  have hgk : gk c := ⟨ho, hd⟩
  refine r_aload_n (pc := 903) h dL_law_903 rfl ?_
  refine r_callVi (pc := 904) (As := []) h dL_law_904 k_L_117 gc_0 rfl ⟨Nat.le_of_ble_eq_true rfl, Nat.le_of_ble_eq_true rfl, Nat.le_of_ble_eq_true rfl⟩ (x_left hR hX ho hd) (fun x_904 g1 hq => ?_)
  obtain ⟨hx1, hR1, hX1, hF1⟩ := hq
  have hM1 := hM.fx hF1
  have hN1 := hN.fx hF1
  refine r_aload_n (pc := 907) h dL_law_907 rfl ?_
  refine r_callVi (pc := 908) (As := []) h dL_law_908 k_L_120 gc_35 rfl ⟨Nat.le_of_ble_eq_true rfl, Nat.le_of_ble_eq_true rfl, Nat.le_of_ble_eq_true rfl⟩ (y_left hM1 hN1 ho hd) (fun x_908 g2 hq => ?_)
  obtain ⟨hy1, hM2, hN2, hF2⟩ := hq
  have hR2 := hR1.fy hF2
  have hX2 := hX1.fy hF2
  refine r_icmp_eq (pc := 911) (tgt := 1290) h dL_law_911 (by decide) (fun c911 => ?_) (fun c911 => absurd (hx1.trans hy1.symm) c911)
  exact kt _ ⟨_, _, _, _, _, _, _, _, hR2, hX2, hM2, hN2, hgk, hck⟩
set_option maxRecDepth 100000 in
set_option maxHeartbeats 4000000 in
theorem lk_order {G : gJ} {xs : Nat → Int32} {L : Nat} (h : gR RL cL_law 12 458 G) (hs : ∀ (pc : Nat) (ls st : List Value) (g : gG) (i : Nat), decode cL_law pc = .ok (.iaload, 1) → i < L → G (pc + 1) ls (.int (xs i) :: st) g → G pc ls (.int (nI i) :: .ref 200 :: st) g) {i : Nat} (hi : i + 6 ≤ L) {g : gG} (hI : Inv g) (kt : ∀ g1, Inv g1 → G 1290 [.ref 200, .ref 0, .ref 35, .int (nI i)] [] g1) : G 916 [.ref 200, .ref 0, .ref 35, .int (nI i)] [] g := by
  obtain ⟨c, ck, hk, lt, nl, rv, nr, rf, hR, hX, hM, hN, ⟨ho, hd⟩, hck⟩ := hI
  have hgk : gk c := ⟨ho, hd⟩
  refine r_aload_n (pc := 916) h dL_law_916 rfl ?_
  refine r_aload_n (pc := 917) h dL_law_917 rfl ?_
  refine r_iload_n (pc := 918) h dL_law_918 rfl ?_
  refine r_iconst (pc := 919) h dL_law_919 ci_1 ?_
  refine r_iadd (pc := 920) h dL_law_920 ?_
  refine r_top (y := nI (i + 1)) h (nI_add _ _) ?_
  refine hs 921 _ _ _ _ dL_law_921 (by omega) ?_
  refine r_callVi (pc := 922) (As := [_]) h dL_law_922 k_L_121 gc_0 rfl ⟨Nat.le_of_ble_eq_true rfl, Nat.le_of_ble_eq_true rfl, Nat.le_of_ble_eq_true rfl⟩ (x_order hR hX ho hd _) (fun x_922 g1 hq => ?_)
  obtain ⟨hx1, hR1, hX1, hF1⟩ := hq
  have hM1 := hM.fx hF1
  have hN1 := hN.fx hF1
  refine r_aload_n (pc := 925) h dL_law_925 rfl ?_
  refine r_aload_n (pc := 926) h dL_law_926 rfl ?_
  refine r_iload_n (pc := 927) h dL_law_927 rfl ?_
  refine r_iconst (pc := 928) h dL_law_928 ci_1 ?_
  refine r_iadd (pc := 929) h dL_law_929 ?_
  refine r_top (y := nI (i + 1)) h (nI_add _ _) ?_
  refine hs 930 _ _ _ _ dL_law_930 (by omega) ?_
  refine r_callVi (pc := 931) (As := [_]) h dL_law_931 k_L_124 gc_35 rfl ⟨Nat.le_of_ble_eq_true rfl, Nat.le_of_ble_eq_true rfl, Nat.le_of_ble_eq_true rfl⟩ (y_order hM1 hN1 ho hd _) (fun x_931 g2 hq => ?_)
  obtain ⟨hy1, hM2, hN2, hF2⟩ := hq
  have hR2 := hR1.fy hF2
  have hX2 := hX1.fy hF2
  refine r_icmp_eq (pc := 934) (tgt := 1290) h dL_law_934 (by decide) (fun c934 => ?_) (fun c934 => absurd (hx1.trans hy1.symm) c934)
  exact kt _ ⟨_, _, _, _, _, _, _, _, hR2, hX2, hM2, hN2, hgk, hck⟩
set_option maxRecDepth 100000 in
set_option maxHeartbeats 4000000 in
theorem lk_heard {G : gJ} {xs : Nat → Int32} {L : Nat} (h : gR RL cL_law 12 458 G) (hs : ∀ (pc : Nat) (ls st : List Value) (g : gG) (i : Nat), decode cL_law pc = .ok (.iaload, 1) → i < L → G (pc + 1) ls (.int (xs i) :: st) g → G pc ls (.int (nI i) :: .ref 200 :: st) g) {i : Nat} (hi : i + 6 ≤ L) {g : gG} (hI : Inv g) (kt : ∀ g1, Inv g1 → G 1290 [.ref 200, .ref 0, .ref 35, .int (nI i)] [] g1) : G 939 [.ref 200, .ref 0, .ref 35, .int (nI i)] [] g := by
  obtain ⟨c, ck, hk, lt, nl, rv, nr, rf, hR, hX, hM, hN, ⟨ho, hd⟩, hck⟩ := hI
  have hgk : gk c := ⟨ho, hd⟩
  refine r_aload_n (pc := 939) h dL_law_939 rfl ?_
  refine r_aload_n (pc := 940) h dL_law_940 rfl ?_
  refine r_iload_n (pc := 941) h dL_law_941 rfl ?_
  refine r_iconst (pc := 942) h dL_law_942 ci_1 ?_
  refine r_iadd (pc := 943) h dL_law_943 ?_
  refine r_top (y := nI (i + 1)) h (nI_add _ _) ?_
  refine hs 944 _ _ _ _ dL_law_944 (by omega) ?_
  refine r_callVi (pc := 945) (As := [_]) h dL_law_945 k_L_125 gc_0 rfl ⟨Nat.le_of_ble_eq_true rfl, Nat.le_of_ble_eq_true rfl, Nat.le_of_ble_eq_true rfl⟩ (x_heard hR hX ho hd _) (fun x_945 g1 hq => ?_)
  obtain ⟨hx1, hR1, hX1, hF1⟩ := hq
  have hM1 := hM.fx hF1
  have hN1 := hN.fx hF1
  refine r_aload_n (pc := 948) h dL_law_948 rfl ?_
  refine r_aload_n (pc := 949) h dL_law_949 rfl ?_
  refine r_iload_n (pc := 950) h dL_law_950 rfl ?_
  refine r_iconst (pc := 951) h dL_law_951 ci_1 ?_
  refine r_iadd (pc := 952) h dL_law_952 ?_
  refine r_top (y := nI (i + 1)) h (nI_add _ _) ?_
  refine hs 953 _ _ _ _ dL_law_953 (by omega) ?_
  refine r_callVi (pc := 954) (As := [_]) h dL_law_954 k_L_128 gc_35 rfl ⟨Nat.le_of_ble_eq_true rfl, Nat.le_of_ble_eq_true rfl, Nat.le_of_ble_eq_true rfl⟩ (y_heard hM1 hN1 ho hd _) (fun x_954 g2 hq => ?_)
  obtain ⟨hy1, hM2, hN2, hF2⟩ := hq
  have hR2 := hR1.fy hF2
  have hX2 := hX1.fy hF2
  refine r_icmp_eq (pc := 957) (tgt := 1290) h dL_law_957 (by decide) (fun c957 => ?_) (fun c957 => absurd (hx1.trans hy1.symm) c957)
  exact kt _ ⟨_, _, _, _, _, _, _, _, hR2, hX2, hM2, hN2, hgk, hck⟩
set_option maxRecDepth 100000 in
set_option maxHeartbeats 4000000 in
theorem lk_rusted {G : gJ} {xs : Nat → Int32} {L : Nat} (h : gR RL cL_law 12 458 G) (hs : ∀ (pc : Nat) (ls st : List Value) (g : gG) (i : Nat), decode cL_law pc = .ok (.iaload, 1) → i < L → G (pc + 1) ls (.int (xs i) :: st) g → G pc ls (.int (nI i) :: .ref 200 :: st) g) {i : Nat} (hi : i + 6 ≤ L) {g : gG} (hI : Inv g) (kt : ∀ g1, Inv g1 → G 1290 [.ref 200, .ref 0, .ref 35, .int (nI i)] [] g1) : G 962 [.ref 200, .ref 0, .ref 35, .int (nI i)] [] g := by
  obtain ⟨c, ck, hk, lt, nl, rv, nr, rf, hR, hX, hM, hN, ⟨ho, hd⟩, hck⟩ := hI
  have hgk : gk c := ⟨ho, hd⟩
  refine r_aload_n (pc := 962) h dL_law_962 rfl ?_
  refine r_aload_n (pc := 963) h dL_law_963 rfl ?_
  refine r_iload_n (pc := 964) h dL_law_964 rfl ?_
  refine r_iconst (pc := 965) h dL_law_965 ci_1 ?_
  refine r_iadd (pc := 966) h dL_law_966 ?_
  refine r_top (y := nI (i + 1)) h (nI_add _ _) ?_
  refine hs 967 _ _ _ _ dL_law_967 (by omega) ?_
  refine r_callVi (pc := 968) (As := [_]) h dL_law_968 k_L_129 gc_0 rfl ⟨Nat.le_of_ble_eq_true rfl, Nat.le_of_ble_eq_true rfl, Nat.le_of_ble_eq_true rfl⟩ (x_rusted hR hX ho hd _) (fun x_968 g1 hq => ?_)
  obtain ⟨hx1, hR1, hX1, hF1⟩ := hq
  have hM1 := hM.fx hF1
  have hN1 := hN.fx hF1
  refine r_aload_n (pc := 971) h dL_law_971 rfl ?_
  refine r_aload_n (pc := 972) h dL_law_972 rfl ?_
  refine r_iload_n (pc := 973) h dL_law_973 rfl ?_
  refine r_iconst (pc := 974) h dL_law_974 ci_1 ?_
  refine r_iadd (pc := 975) h dL_law_975 ?_
  refine r_top (y := nI (i + 1)) h (nI_add _ _) ?_
  refine hs 976 _ _ _ _ dL_law_976 (by omega) ?_
  refine r_callVi (pc := 977) (As := [_]) h dL_law_977 k_L_132 gc_35 rfl ⟨Nat.le_of_ble_eq_true rfl, Nat.le_of_ble_eq_true rfl, Nat.le_of_ble_eq_true rfl⟩ (y_rusted hM1 hN1 ho hd _) (fun x_977 g2 hq => ?_)
  obtain ⟨hy1, hM2, hN2, hF2⟩ := hq
  have hR2 := hR1.fy hF2
  have hX2 := hX1.fy hF2
  refine r_icmp_eq (pc := 980) (tgt := 1290) h dL_law_980 (by decide) (fun c980 => ?_) (fun c980 => absurd (hx1.trans hy1.symm) c980)
  exact kt _ ⟨_, _, _, _, _, _, _, _, hR2, hX2, hM2, hN2, hgk, hck⟩
set_option maxRecDepth 100000 in
set_option maxHeartbeats 4000000 in
theorem lk_two {G : gJ} {xs : Nat → Int32} {L : Nat} (h : gR RL cL_law 12 458 G) (hs : ∀ (pc : Nat) (ls st : List Value) (g : gG) (i : Nat), decode cL_law pc = .ok (.iaload, 1) → i < L → G (pc + 1) ls (.int (xs i) :: st) g → G pc ls (.int (nI i) :: .ref 200 :: st) g) {i : Nat} (hi : i + 6 ≤ L) {g : gG} (hI : Inv g) (kt : ∀ g1, Inv g1 → G 1290 [.ref 200, .ref 0, .ref 35, .int (nI i)] [] g1) : G 985 [.ref 200, .ref 0, .ref 35, .int (nI i)] [] g := by
  obtain ⟨c, ck, hk, lt, nl, rv, nr, rf, hR, hX, hM, hN, ⟨ho, hd⟩, hck⟩ := hI
  have hgk : gk c := ⟨ho, hd⟩
  refine r_aload_n (pc := 985) h dL_law_985 rfl ?_
  refine r_aload_n (pc := 986) h dL_law_986 rfl ?_
  refine r_iload_n (pc := 987) h dL_law_987 rfl ?_
  refine r_iconst (pc := 988) h dL_law_988 ci_1 ?_
  refine r_iadd (pc := 989) h dL_law_989 ?_
  refine r_top (y := nI (i + 1)) h (nI_add _ _) ?_
  refine hs 990 _ _ _ _ dL_law_990 (by omega) ?_
  refine r_aload_n (pc := 991) h dL_law_991 rfl ?_
  refine r_iload_n (pc := 992) h dL_law_992 rfl ?_
  refine r_iconst (pc := 993) h dL_law_993 ci_2 ?_
  refine r_iadd (pc := 994) h dL_law_994 ?_
  refine r_top (y := nI (i + 2)) h (nI_add _ _) ?_
  refine hs 995 _ _ _ _ dL_law_995 (by omega) ?_
  refine r_aload_n (pc := 996) h dL_law_996 rfl ?_
  refine r_iload_n (pc := 997) h dL_law_997 rfl ?_
  refine r_iconst (pc := 998) h dL_law_998 ci_3 ?_
  refine r_iadd (pc := 999) h dL_law_999 ?_
  refine r_top (y := nI (i + 3)) h (nI_add _ _) ?_
  refine hs 1000 _ _ _ _ dL_law_1000 (by omega) ?_
  refine r_callVi (pc := 1001) (As := [_, _, _]) h dL_law_1001 k_L_133 gc_0 rfl ⟨Nat.le_of_ble_eq_true rfl, Nat.le_of_ble_eq_true rfl, Nat.le_of_ble_eq_true rfl⟩ (x_two hR hX ho hd _ _ _) (fun x_1001 g1 hq => ?_)
  obtain ⟨hx1, hR1, hX1, hF1⟩ := hq
  have hM1 := hM.fx hF1
  have hN1 := hN.fx hF1
  refine r_aload_n (pc := 1004) h dL_law_1004 rfl ?_
  refine r_aload_n (pc := 1005) h dL_law_1005 rfl ?_
  refine r_iload_n (pc := 1006) h dL_law_1006 rfl ?_
  refine r_iconst (pc := 1007) h dL_law_1007 ci_1 ?_
  refine r_iadd (pc := 1008) h dL_law_1008 ?_
  refine r_top (y := nI (i + 1)) h (nI_add _ _) ?_
  refine hs 1009 _ _ _ _ dL_law_1009 (by omega) ?_
  refine r_aload_n (pc := 1010) h dL_law_1010 rfl ?_
  refine r_iload_n (pc := 1011) h dL_law_1011 rfl ?_
  refine r_iconst (pc := 1012) h dL_law_1012 ci_2 ?_
  refine r_iadd (pc := 1013) h dL_law_1013 ?_
  refine r_top (y := nI (i + 2)) h (nI_add _ _) ?_
  refine hs 1014 _ _ _ _ dL_law_1014 (by omega) ?_
  refine r_aload_n (pc := 1015) h dL_law_1015 rfl ?_
  refine r_iload_n (pc := 1016) h dL_law_1016 rfl ?_
  refine r_iconst (pc := 1017) h dL_law_1017 ci_3 ?_
  refine r_iadd (pc := 1018) h dL_law_1018 ?_
  refine r_top (y := nI (i + 3)) h (nI_add _ _) ?_
  refine hs 1019 _ _ _ _ dL_law_1019 (by omega) ?_
  refine r_callVi (pc := 1020) (As := [_, _, _]) h dL_law_1020 k_L_136 gc_35 rfl ⟨Nat.le_of_ble_eq_true rfl, Nat.le_of_ble_eq_true rfl, Nat.le_of_ble_eq_true rfl⟩ (y_two hM1 hN1 ho hd _ _ _) (fun x_1020 g2 hq => ?_)
  obtain ⟨hy1, hM2, hN2, hF2⟩ := hq
  have hR2 := hR1.fy hF2
  have hX2 := hX1.fy hF2
  refine r_icmp_eq (pc := 1023) (tgt := 1290) h dL_law_1023 (by decide) (fun c1023 => ?_) (fun c1023 => absurd (hx1.trans hy1.symm) c1023)
  exact kt _ ⟨_, _, _, _, _, _, _, _, hR2, hX2, hM2, hN2, hgk, hck⟩
set_option maxRecDepth 100000 in
set_option maxHeartbeats 4000000 in
theorem lk_rain {G : gJ} {xs : Nat → Int32} {L : Nat} (h : gR RL cL_law 12 458 G) (hs : ∀ (pc : Nat) (ls st : List Value) (g : gG) (i : Nat), decode cL_law pc = .ok (.iaload, 1) → i < L → G (pc + 1) ls (.int (xs i) :: st) g → G pc ls (.int (nI i) :: .ref 200 :: st) g) {i : Nat} (hi : i + 6 ≤ L) {g : gG} (hI : Inv g) (kt : ∀ g1, Inv g1 → G 1290 [.ref 200, .ref 0, .ref 35, .int (nI i)] [] g1) : G 1028 [.ref 200, .ref 0, .ref 35, .int (nI i)] [] g := by
  obtain ⟨c, ck, hk, lt, nl, rv, nr, rf, hR, hX, hM, hN, ⟨ho, hd⟩, hck⟩ := hI
  have hgk : gk c := ⟨ho, hd⟩
  refine r_aload_n (pc := 1028) h dL_law_1028 rfl ?_
  refine r_aload_n (pc := 1029) h dL_law_1029 rfl ?_
  refine r_iload_n (pc := 1030) h dL_law_1030 rfl ?_
  refine r_iconst (pc := 1031) h dL_law_1031 ci_1 ?_
  refine r_iadd (pc := 1032) h dL_law_1032 ?_
  refine r_top (y := nI (i + 1)) h (nI_add _ _) ?_
  refine hs 1033 _ _ _ _ dL_law_1033 (by omega) ?_
  refine r_aload_n (pc := 1034) h dL_law_1034 rfl ?_
  refine r_iload_n (pc := 1035) h dL_law_1035 rfl ?_
  refine r_iconst (pc := 1036) h dL_law_1036 ci_2 ?_
  refine r_iadd (pc := 1037) h dL_law_1037 ?_
  refine r_top (y := nI (i + 2)) h (nI_add _ _) ?_
  refine hs 1038 _ _ _ _ dL_law_1038 (by omega) ?_
  refine r_aload_n (pc := 1039) h dL_law_1039 rfl ?_
  refine r_iload_n (pc := 1040) h dL_law_1040 rfl ?_
  refine r_iconst (pc := 1041) h dL_law_1041 ci_3 ?_
  refine r_iadd (pc := 1042) h dL_law_1042 ?_
  refine r_top (y := nI (i + 3)) h (nI_add _ _) ?_
  refine hs 1043 _ _ _ _ dL_law_1043 (by omega) ?_
  refine r_aload_n (pc := 1044) h dL_law_1044 rfl ?_
  refine r_iload_n (pc := 1045) h dL_law_1045 rfl ?_
  refine r_iconst (pc := 1046) h dL_law_1046 ci_4 ?_
  refine r_iadd (pc := 1047) h dL_law_1047 ?_
  refine r_top (y := nI (i + 4)) h (nI_add _ _) ?_
  refine hs 1048 _ _ _ _ dL_law_1048 (by omega) ?_
  refine r_aload_n (pc := 1049) h dL_law_1049 rfl ?_
  refine r_iload_n (pc := 1050) h dL_law_1050 rfl ?_
  refine r_iconst (pc := 1051) h dL_law_1051 ci_5 ?_
  refine r_iadd (pc := 1052) h dL_law_1052 ?_
  refine r_top (y := nI (i + 5)) h (nI_add _ _) ?_
  refine hs 1053 _ _ _ _ dL_law_1053 (by omega) ?_
  refine r_callVl (pc := 1054) (As := [_, _, _, _, _]) h dL_law_1054 k_L_137 gc_0 rfl ⟨Nat.le_of_ble_eq_true rfl, Nat.le_of_ble_eq_true rfl, Nat.le_of_ble_eq_true rfl⟩ (x_rain hR hX ho hd _ _ _ _ _) (fun x_1054 g1 hq => ?_)
  obtain ⟨hx1, hR1, hX1, hF1⟩ := hq
  have hM1 := hM.fx hF1
  have hN1 := hN.fx hF1
  refine r_aload_n (pc := 1057) h dL_law_1057 rfl ?_
  refine r_aload_n (pc := 1058) h dL_law_1058 rfl ?_
  refine r_iload_n (pc := 1059) h dL_law_1059 rfl ?_
  refine r_iconst (pc := 1060) h dL_law_1060 ci_1 ?_
  refine r_iadd (pc := 1061) h dL_law_1061 ?_
  refine r_top (y := nI (i + 1)) h (nI_add _ _) ?_
  refine hs 1062 _ _ _ _ dL_law_1062 (by omega) ?_
  refine r_aload_n (pc := 1063) h dL_law_1063 rfl ?_
  refine r_iload_n (pc := 1064) h dL_law_1064 rfl ?_
  refine r_iconst (pc := 1065) h dL_law_1065 ci_2 ?_
  refine r_iadd (pc := 1066) h dL_law_1066 ?_
  refine r_top (y := nI (i + 2)) h (nI_add _ _) ?_
  refine hs 1067 _ _ _ _ dL_law_1067 (by omega) ?_
  refine r_aload_n (pc := 1068) h dL_law_1068 rfl ?_
  refine r_iload_n (pc := 1069) h dL_law_1069 rfl ?_
  refine r_iconst (pc := 1070) h dL_law_1070 ci_3 ?_
  refine r_iadd (pc := 1071) h dL_law_1071 ?_
  refine r_top (y := nI (i + 3)) h (nI_add _ _) ?_
  refine hs 1072 _ _ _ _ dL_law_1072 (by omega) ?_
  refine r_aload_n (pc := 1073) h dL_law_1073 rfl ?_
  refine r_iload_n (pc := 1074) h dL_law_1074 rfl ?_
  refine r_iconst (pc := 1075) h dL_law_1075 ci_4 ?_
  refine r_iadd (pc := 1076) h dL_law_1076 ?_
  refine r_top (y := nI (i + 4)) h (nI_add _ _) ?_
  refine hs 1077 _ _ _ _ dL_law_1077 (by omega) ?_
  refine r_aload_n (pc := 1078) h dL_law_1078 rfl ?_
  refine r_iload_n (pc := 1079) h dL_law_1079 rfl ?_
  refine r_iconst (pc := 1080) h dL_law_1080 ci_5 ?_
  refine r_iadd (pc := 1081) h dL_law_1081 ?_
  refine r_top (y := nI (i + 5)) h (nI_add _ _) ?_
  refine hs 1082 _ _ _ _ dL_law_1082 (by omega) ?_
  refine r_callVl (pc := 1083) (As := [_, _, _, _, _]) h dL_law_1083 k_L_141 gc_35 rfl ⟨Nat.le_of_ble_eq_true rfl, Nat.le_of_ble_eq_true rfl, Nat.le_of_ble_eq_true rfl⟩ (y_rain hM1 hN1 ho hd _ _ _ _ _) (fun x_1083 g2 hq => ?_)
  obtain ⟨hy1, hM2, hN2, hF2⟩ := hq
  have hR2 := hR1.fy hF2
  have hX2 := hX1.fy hF2
  refine r_lcmp (pc := 1086) h dL_law_1086 ?_
  refine r_if_eq (pc := 1087) (tgt := 1290) h dL_law_1087 (by decide) (fun c1087 => ?_) (fun c1087 => absurd (by rw [hx1, hy1]; exact lcs _) c1087)
  exact kt _ ⟨_, _, _, _, _, _, _, _, hR2, hX2, hM2, hN2, hgk, hck⟩
set_option maxRecDepth 100000 in
set_option maxHeartbeats 4000000 in
theorem lk_mean {G : gJ} {xs : Nat → Int32} {L : Nat} (h : gR RL cL_law 12 458 G) (hs : ∀ (pc : Nat) (ls st : List Value) (g : gG) (i : Nat), decode cL_law pc = .ok (.iaload, 1) → i < L → G (pc + 1) ls (.int (xs i) :: st) g → G pc ls (.int (nI i) :: .ref 200 :: st) g) {i : Nat} (hi : i + 6 ≤ L) {g : gG} (hI : Inv g) (kt : ∀ g1, Inv g1 → G 1290 [.ref 200, .ref 0, .ref 35, .int (nI i)] [] g1) : G 1092 [.ref 200, .ref 0, .ref 35, .int (nI i)] [] g := by
  obtain ⟨c, ck, hk, lt, nl, rv, nr, rf, hR, hX, hM, hN, ⟨ho, hd⟩, hck⟩ := hI
  have hgk : gk c := ⟨ho, hd⟩
  refine r_aload_n (pc := 1092) h dL_law_1092 rfl ?_
  refine r_aload_n (pc := 1093) h dL_law_1093 rfl ?_
  refine r_iload_n (pc := 1094) h dL_law_1094 rfl ?_
  refine r_iconst (pc := 1095) h dL_law_1095 ci_1 ?_
  refine r_iadd (pc := 1096) h dL_law_1096 ?_
  refine r_top (y := nI (i + 1)) h (nI_add _ _) ?_
  refine hs 1097 _ _ _ _ dL_law_1097 (by omega) ?_
  refine r_callVl (pc := 1098) (As := [_]) h dL_law_1098 k_L_142 gc_0 rfl ⟨Nat.le_of_ble_eq_true rfl, Nat.le_of_ble_eq_true rfl, Nat.le_of_ble_eq_true rfl⟩ (x_mean hR hX ho hd _) (fun x_1098 g1 hq => ?_)
  obtain ⟨hx1, hR1, hX1, hF1⟩ := hq
  have hM1 := hM.fx hF1
  have hN1 := hN.fx hF1
  refine r_aload_n (pc := 1101) h dL_law_1101 rfl ?_
  refine r_aload_n (pc := 1102) h dL_law_1102 rfl ?_
  refine r_iload_n (pc := 1103) h dL_law_1103 rfl ?_
  refine r_iconst (pc := 1104) h dL_law_1104 ci_1 ?_
  refine r_iadd (pc := 1105) h dL_law_1105 ?_
  refine r_top (y := nI (i + 1)) h (nI_add _ _) ?_
  refine hs 1106 _ _ _ _ dL_law_1106 (by omega) ?_
  refine r_callVl (pc := 1107) (As := [_]) h dL_law_1107 k_L_146 gc_35 rfl ⟨Nat.le_of_ble_eq_true rfl, Nat.le_of_ble_eq_true rfl, Nat.le_of_ble_eq_true rfl⟩ (y_mean hM1 hN1 ho hd _) (fun x_1107 g2 hq => ?_)
  obtain ⟨hy1, hM2, hN2, hF2⟩ := hq
  have hR2 := hR1.fy hF2
  have hX2 := hX1.fy hF2
  refine r_lcmp (pc := 1110) h dL_law_1110 ?_
  refine r_if_eq (pc := 1111) (tgt := 1290) h dL_law_1111 (by decide) (fun c1111 => ?_) (fun c1111 => absurd (by rw [hx1, hy1]; exact lcs _) c1111)
  exact kt _ ⟨_, _, _, _, _, _, _, _, hR2, hX2, hM2, hN2, hgk, hck⟩
set_option maxRecDepth 100000 in
set_option maxHeartbeats 4000000 in
theorem lk_whatIs {G : gJ} {xs : Nat → Int32} {L : Nat} (h : gR RL cL_law 12 458 G) (hs : ∀ (pc : Nat) (ls st : List Value) (g : gG) (i : Nat), decode cL_law pc = .ok (.iaload, 1) → i < L → G (pc + 1) ls (.int (xs i) :: st) g → G pc ls (.int (nI i) :: .ref 200 :: st) g) {i : Nat} (hi : i + 6 ≤ L) {g : gG} (hI : Inv g) (kt : ∀ g1, Inv g1 → G 1290 [.ref 200, .ref 0, .ref 35, .int (nI i)] [] g1) : G 1116 [.ref 200, .ref 0, .ref 35, .int (nI i)] [] g := by
  obtain ⟨c, ck, hk, lt, nl, rv, nr, rf, hR, hX, hM, hN, ⟨ho, hd⟩, hck⟩ := hI
  have hgk : gk c := ⟨ho, hd⟩
  refine r_aload_n (pc := 1116) h dL_law_1116 rfl ?_
  refine r_aload_n (pc := 1117) h dL_law_1117 rfl ?_
  refine r_iload_n (pc := 1118) h dL_law_1118 rfl ?_
  refine r_iconst (pc := 1119) h dL_law_1119 ci_1 ?_
  refine r_iadd (pc := 1120) h dL_law_1120 ?_
  refine r_top (y := nI (i + 1)) h (nI_add _ _) ?_
  refine hs 1121 _ _ _ _ dL_law_1121 (by omega) ?_
  refine r_aload_n (pc := 1122) h dL_law_1122 rfl ?_
  refine r_iload_n (pc := 1123) h dL_law_1123 rfl ?_
  refine r_iconst (pc := 1124) h dL_law_1124 ci_2 ?_
  refine r_iadd (pc := 1125) h dL_law_1125 ?_
  refine r_top (y := nI (i + 2)) h (nI_add _ _) ?_
  refine hs 1126 _ _ _ _ dL_law_1126 (by omega) ?_
  refine r_callVi (pc := 1127) (As := [_, _]) h dL_law_1127 k_L_147 gc_0 rfl ⟨Nat.le_of_ble_eq_true rfl, Nat.le_of_ble_eq_true rfl, Nat.le_of_ble_eq_true rfl⟩ (x_whatIs hR hX ho hd _ _) (fun x_1127 g1 hq => ?_)
  obtain ⟨hx1, hR1, hX1, hF1⟩ := hq
  have hM1 := hM.fx hF1
  have hN1 := hN.fx hF1
  refine r_aload_n (pc := 1130) h dL_law_1130 rfl ?_
  refine r_aload_n (pc := 1131) h dL_law_1131 rfl ?_
  refine r_iload_n (pc := 1132) h dL_law_1132 rfl ?_
  refine r_iconst (pc := 1133) h dL_law_1133 ci_1 ?_
  refine r_iadd (pc := 1134) h dL_law_1134 ?_
  refine r_top (y := nI (i + 1)) h (nI_add _ _) ?_
  refine hs 1135 _ _ _ _ dL_law_1135 (by omega) ?_
  refine r_aload_n (pc := 1136) h dL_law_1136 rfl ?_
  refine r_iload_n (pc := 1137) h dL_law_1137 rfl ?_
  refine r_iconst (pc := 1138) h dL_law_1138 ci_2 ?_
  refine r_iadd (pc := 1139) h dL_law_1139 ?_
  refine r_top (y := nI (i + 2)) h (nI_add _ _) ?_
  refine hs 1140 _ _ _ _ dL_law_1140 (by omega) ?_
  refine r_callVi (pc := 1141) (As := [_, _]) h dL_law_1141 k_L_150 gc_35 rfl ⟨Nat.le_of_ble_eq_true rfl, Nat.le_of_ble_eq_true rfl, Nat.le_of_ble_eq_true rfl⟩ (y_whatIs hM1 hN1 ho hd _ _) (fun x_1141 g2 hq => ?_)
  obtain ⟨hy1, hM2, hN2, hF2⟩ := hq
  have hR2 := hR1.fy hF2
  have hX2 := hX1.fy hF2
  refine r_icmp_eq (pc := 1144) (tgt := 1290) h dL_law_1144 (by decide) (fun c1144 => ?_) (fun c1144 => absurd (hx1.trans hy1.symm) c1144)
  exact kt _ ⟨_, _, _, _, _, _, _, _, hR2, hX2, hM2, hN2, hgk, hck⟩
set_option maxRecDepth 100000 in
set_option maxHeartbeats 4000000 in
theorem lk_row {G : gJ} {xs : Nat → Int32} {L : Nat} (h : gR RL cL_law 12 458 G) (hs : ∀ (pc : Nat) (ls st : List Value) (g : gG) (i : Nat), decode cL_law pc = .ok (.iaload, 1) → i < L → G (pc + 1) ls (.int (xs i) :: st) g → G pc ls (.int (nI i) :: .ref 200 :: st) g) {i : Nat} (hi : i + 6 ≤ L) {g : gG} (hI : Inv g) (kt : ∀ g1, Inv g1 → G 1290 [.ref 200, .ref 0, .ref 35, .int (nI i)] [] g1) : G 1149 [.ref 200, .ref 0, .ref 35, .int (nI i)] [] g := by
  obtain ⟨c, ck, hk, lt, nl, rv, nr, rf, hR, hX, hM, hN, ⟨ho, hd⟩, hck⟩ := hI
  have hgk : gk c := ⟨ho, hd⟩
  refine r_aload_n (pc := 1149) h dL_law_1149 rfl ?_
  refine r_aload_n (pc := 1150) h dL_law_1150 rfl ?_
  refine r_iload_n (pc := 1151) h dL_law_1151 rfl ?_
  refine r_iconst (pc := 1152) h dL_law_1152 ci_1 ?_
  refine r_iadd (pc := 1153) h dL_law_1153 ?_
  refine r_top (y := nI (i + 1)) h (nI_add _ _) ?_
  refine hs 1154 _ _ _ _ dL_law_1154 (by omega) ?_
  refine r_callVi (pc := 1155) (As := [_]) h dL_law_1155 k_L_151 gc_0 rfl ⟨Nat.le_of_ble_eq_true rfl, Nat.le_of_ble_eq_true rfl, Nat.le_of_ble_eq_true rfl⟩ (x_row hR hX ho hd _) (fun x_1155 g1 hq => ?_)
  obtain ⟨hx1, hR1, hX1, hF1⟩ := hq
  have hM1 := hM.fx hF1
  have hN1 := hN.fx hF1
  refine r_aload_n (pc := 1158) h dL_law_1158 rfl ?_
  refine r_aload_n (pc := 1159) h dL_law_1159 rfl ?_
  refine r_iload_n (pc := 1160) h dL_law_1160 rfl ?_
  refine r_iconst (pc := 1161) h dL_law_1161 ci_1 ?_
  refine r_iadd (pc := 1162) h dL_law_1162 ?_
  refine r_top (y := nI (i + 1)) h (nI_add _ _) ?_
  refine hs 1163 _ _ _ _ dL_law_1163 (by omega) ?_
  refine r_callVi (pc := 1164) (As := [_]) h dL_law_1164 k_L_154 gc_35 rfl ⟨Nat.le_of_ble_eq_true rfl, Nat.le_of_ble_eq_true rfl, Nat.le_of_ble_eq_true rfl⟩ (y_row hM1 hN1 ho hd _) (fun x_1164 g2 hq => ?_)
  obtain ⟨hy1, hM2, hN2, hF2⟩ := hq
  have hR2 := hR1.fy hF2
  have hX2 := hX1.fy hF2
  refine r_icmp_eq (pc := 1167) (tgt := 1290) h dL_law_1167 (by decide) (fun c1167 => ?_) (fun c1167 => absurd (hx1.trans hy1.symm) c1167)
  exact kt _ ⟨_, _, _, _, _, _, _, _, hR2, hX2, hM2, hN2, hgk, hck⟩
set_option maxRecDepth 100000 in
set_option maxHeartbeats 4000000 in
theorem lk_judge {G : gJ} {xs : Nat → Int32} {L : Nat} (h : gR RL cL_law 12 458 G) (hs : ∀ (pc : Nat) (ls st : List Value) (g : gG) (i : Nat), decode cL_law pc = .ok (.iaload, 1) → i < L → G (pc + 1) ls (.int (xs i) :: st) g → G pc ls (.int (nI i) :: .ref 200 :: st) g) {i : Nat} (hi : i + 6 ≤ L) {g : gG} (hI : Inv g) (kt : ∀ g1, Inv g1 → G 1290 [.ref 200, .ref 0, .ref 35, .int (nI i)] [] g1) : G 1172 [.ref 200, .ref 0, .ref 35, .int (nI i)] [] g := by
  obtain ⟨c, ck, hk, lt, nl, rv, nr, rf, hR, hX, hM, hN, ⟨ho, hd⟩, hck⟩ := hI
  have hgk : gk c := ⟨ho, hd⟩
  refine r_aload_n (pc := 1172) h dL_law_1172 rfl ?_
  refine r_callVi (pc := 1173) (As := []) h dL_law_1173 k_L_155 gc_0 rfl ⟨Nat.le_of_ble_eq_true rfl, Nat.le_of_ble_eq_true rfl, Nat.le_of_ble_eq_true rfl⟩ (x_judge hR hX ho hd) (fun x_1173 g1 hq => ?_)
  obtain ⟨hx1, hR1, hX1, hF1⟩ := hq
  have hM1 := hM.fx hF1
  have hN1 := hN.fx hF1
  refine r_aload_n (pc := 1176) h dL_law_1176 rfl ?_
  refine r_callVi (pc := 1177) (As := []) h dL_law_1177 k_L_158 gc_35 rfl ⟨Nat.le_of_ble_eq_true rfl, Nat.le_of_ble_eq_true rfl, Nat.le_of_ble_eq_true rfl⟩ (y_judge hM1 hN1 ho hd) (fun x_1177 g2 hq => ?_)
  obtain ⟨hy1, hM2, hN2, hF2⟩ := hq
  have hR2 := hR1.fy hF2
  have hX2 := hX1.fy hF2
  refine r_icmp_eq (pc := 1180) (tgt := 1290) h dL_law_1180 (by decide) (fun c1180 => ?_) (fun c1180 => absurd (hx1.trans hy1.symm) c1180)
  exact kt _ ⟨_, _, _, _, _, _, _, _, hR2, hX2, hM2, hN2, hgk, hck⟩
set_option maxRecDepth 100000 in
set_option maxHeartbeats 4000000 in
theorem lk_clear {G : gJ} {xs : Nat → Int32} {L : Nat} (h : gR RL cL_law 12 458 G) (hs : ∀ (pc : Nat) (ls st : List Value) (g : gG) (i : Nat), decode cL_law pc = .ok (.iaload, 1) → i < L → G (pc + 1) ls (.int (xs i) :: st) g → G pc ls (.int (nI i) :: .ref 200 :: st) g) {i : Nat} (hi : i + 6 ≤ L) {g : gG} (hI : Inv g) (kt : ∀ g1, Inv g1 → G 1290 [.ref 200, .ref 0, .ref 35, .int (nI i)] [] g1) : G 1185 [.ref 200, .ref 0, .ref 35, .int (nI i)] [] g := by
  obtain ⟨c, ck, hk, lt, nl, rv, nr, rf, hR, hX, hM, hN, ⟨ho, hd⟩, hck⟩ := hI
  have hgk : gk c := ⟨ho, hd⟩
  refine r_aload_n (pc := 1185) h dL_law_1185 rfl ?_
  refine r_callVi (pc := 1186) (As := []) h dL_law_1186 k_L_159 gc_0 rfl ⟨Nat.le_of_ble_eq_true rfl, Nat.le_of_ble_eq_true rfl, Nat.le_of_ble_eq_true rfl⟩ (x_clear hR hX ho hd) (fun x_1186 g1 hq => ?_)
  obtain ⟨hx1, hR1, hX1, hF1⟩ := hq
  have hM1 := hM.fx hF1
  have hN1 := hN.fx hF1
  refine r_aload_n (pc := 1189) h dL_law_1189 rfl ?_
  refine r_callVi (pc := 1190) (As := []) h dL_law_1190 k_L_162 gc_35 rfl ⟨Nat.le_of_ble_eq_true rfl, Nat.le_of_ble_eq_true rfl, Nat.le_of_ble_eq_true rfl⟩ (y_clear hM1 hN1 ho hd) (fun x_1190 g2 hq => ?_)
  obtain ⟨hy1, hM2, hN2, hF2⟩ := hq
  have hR2 := hR1.fy hF2
  have hX2 := hX1.fy hF2
  refine r_icmp_eq (pc := 1193) (tgt := 1290) h dL_law_1193 (by decide) (fun c1193 => ?_) (fun c1193 => absurd (hx1.trans hy1.symm) c1193)
  exact kt _ ⟨_, _, _, _, _, _, _, _, hR2, hX2, hM2, hN2, hgk, hck⟩
set_option maxRecDepth 100000 in
set_option maxHeartbeats 4000000 in
theorem lk_lots {G : gJ} {xs : Nat → Int32} {L : Nat} (h : gR RL cL_law 12 458 G) (hs : ∀ (pc : Nat) (ls st : List Value) (g : gG) (i : Nat), decode cL_law pc = .ok (.iaload, 1) → i < L → G (pc + 1) ls (.int (xs i) :: st) g → G pc ls (.int (nI i) :: .ref 200 :: st) g) {i : Nat} (hi : i + 6 ≤ L) {g : gG} (hI : Inv g) (kt : ∀ g1, Inv g1 → G 1290 [.ref 200, .ref 0, .ref 35, .int (nI i)] [] g1) : G 1198 [.ref 200, .ref 0, .ref 35, .int (nI i)] [] g := by
  obtain ⟨c, ck, hk, lt, nl, rv, nr, rf, hR, hX, hM, hN, ⟨ho, hd⟩, hck⟩ := hI
  have hgk : gk c := ⟨ho, hd⟩
  refine r_aload_n (pc := 1198) h dL_law_1198 rfl ?_
  refine r_aload_n (pc := 1199) h dL_law_1199 rfl ?_
  refine r_iload_n (pc := 1200) h dL_law_1200 rfl ?_
  refine r_iconst (pc := 1201) h dL_law_1201 ci_1 ?_
  refine r_iadd (pc := 1202) h dL_law_1202 ?_
  refine r_top (y := nI (i + 1)) h (nI_add _ _) ?_
  refine hs 1203 _ _ _ _ dL_law_1203 (by omega) ?_
  refine r_aload_n (pc := 1204) h dL_law_1204 rfl ?_
  refine r_iload_n (pc := 1205) h dL_law_1205 rfl ?_
  refine r_iconst (pc := 1206) h dL_law_1206 ci_2 ?_
  refine r_iadd (pc := 1207) h dL_law_1207 ?_
  refine r_top (y := nI (i + 2)) h (nI_add _ _) ?_
  refine hs 1208 _ _ _ _ dL_law_1208 (by omega) ?_
  refine r_aload_n (pc := 1209) h dL_law_1209 rfl ?_
  refine r_iload_n (pc := 1210) h dL_law_1210 rfl ?_
  refine r_iconst (pc := 1211) h dL_law_1211 ci_3 ?_
  refine r_iadd (pc := 1212) h dL_law_1212 ?_
  refine r_top (y := nI (i + 3)) h (nI_add _ _) ?_
  refine hs 1213 _ _ _ _ dL_law_1213 (by omega) ?_
  refine r_callVi (pc := 1214) (As := [_, _, _]) h dL_law_1214 k_L_163 gc_0 rfl ⟨Nat.le_of_ble_eq_true rfl, Nat.le_of_ble_eq_true rfl, Nat.le_of_ble_eq_true rfl⟩ (x_lots hR hX ho hd _ _ _) (fun x_1214 g1 hq => ?_)
  obtain ⟨hx1, hR1, hX1, hF1⟩ := hq
  have hM1 := hM.fx hF1
  have hN1 := hN.fx hF1
  refine r_aload_n (pc := 1217) h dL_law_1217 rfl ?_
  refine r_aload_n (pc := 1218) h dL_law_1218 rfl ?_
  refine r_iload_n (pc := 1219) h dL_law_1219 rfl ?_
  refine r_iconst (pc := 1220) h dL_law_1220 ci_1 ?_
  refine r_iadd (pc := 1221) h dL_law_1221 ?_
  refine r_top (y := nI (i + 1)) h (nI_add _ _) ?_
  refine hs 1222 _ _ _ _ dL_law_1222 (by omega) ?_
  refine r_aload_n (pc := 1223) h dL_law_1223 rfl ?_
  refine r_iload_n (pc := 1224) h dL_law_1224 rfl ?_
  refine r_iconst (pc := 1225) h dL_law_1225 ci_2 ?_
  refine r_iadd (pc := 1226) h dL_law_1226 ?_
  refine r_top (y := nI (i + 2)) h (nI_add _ _) ?_
  refine hs 1227 _ _ _ _ dL_law_1227 (by omega) ?_
  refine r_aload_n (pc := 1228) h dL_law_1228 rfl ?_
  refine r_iload_n (pc := 1229) h dL_law_1229 rfl ?_
  refine r_iconst (pc := 1230) h dL_law_1230 ci_3 ?_
  refine r_iadd (pc := 1231) h dL_law_1231 ?_
  refine r_top (y := nI (i + 3)) h (nI_add _ _) ?_
  refine hs 1232 _ _ _ _ dL_law_1232 (by omega) ?_
  refine r_callVi (pc := 1233) (As := [_, _, _]) h dL_law_1233 k_L_166 gc_35 rfl ⟨Nat.le_of_ble_eq_true rfl, Nat.le_of_ble_eq_true rfl, Nat.le_of_ble_eq_true rfl⟩ (y_lots hM1 hN1 ho hd _ _ _) (fun x_1233 g2 hq => ?_)
  obtain ⟨hy1, hM2, hN2, hF2⟩ := hq
  have hR2 := hR1.fy hF2
  have hX2 := hX1.fy hF2
  refine r_icmp_eq (pc := 1236) (tgt := 1290) h dL_law_1236 (by decide) (fun c1236 => ?_) (fun c1236 => absurd (hx1.trans hy1.symm) c1236)
  exact kt _ ⟨_, _, _, _, _, _, _, _, hR2, hX2, hM2, hN2, hgk, hck⟩
set_option maxRecDepth 100000 in
set_option maxHeartbeats 4000000 in
theorem lk_image {G : gJ} {xs : Nat → Int32} {L : Nat} (h : gR RL cL_law 12 458 G) (hs : ∀ (pc : Nat) (ls st : List Value) (g : gG) (i : Nat), decode cL_law pc = .ok (.iaload, 1) → i < L → G (pc + 1) ls (.int (xs i) :: st) g → G pc ls (.int (nI i) :: .ref 200 :: st) g) {i : Nat} (hi : i + 6 ≤ L) {g : gG} (hI : Inv g) (kt : ∀ g1, Inv g1 → G 1290 [.ref 200, .ref 0, .ref 35, .int (nI i)] [] g1) : G 1241 [.ref 200, .ref 0, .ref 35, .int (nI i)] [] g := by
  obtain ⟨c, ck, hk, lt, nl, rv, nr, rf, hR, hX, hM, hN, ⟨ho, hd⟩, hck⟩ := hI
  have hgk : gk c := ⟨ho, hd⟩
  refine r_aload_n (pc := 1241) h dL_law_1241 rfl ?_
  refine r_callVi (pc := 1242) (As := []) h dL_law_1242 k_L_167 gc_0 rfl ⟨Nat.le_of_ble_eq_true rfl, Nat.le_of_ble_eq_true rfl, Nat.le_of_ble_eq_true rfl⟩ (x_image hR hX ho hd) (fun x_1242 g1 hq => ?_)
  obtain ⟨hx1, hR1, hX1, hF1⟩ := hq
  have hM1 := hM.fx hF1
  have hN1 := hN.fx hF1
  refine r_aload_n (pc := 1245) h dL_law_1245 rfl ?_
  refine r_callVi (pc := 1246) (As := []) h dL_law_1246 k_L_170 gc_35 rfl ⟨Nat.le_of_ble_eq_true rfl, Nat.le_of_ble_eq_true rfl, Nat.le_of_ble_eq_true rfl⟩ (y_image hM1 hN1 ho hd) (fun x_1246 g2 hq => ?_)
  obtain ⟨hy1, hM2, hN2, hF2⟩ := hq
  have hR2 := hR1.fy hF2
  have hX2 := hX1.fy hF2
  refine r_icmp_eq (pc := 1249) (tgt := 1290) h dL_law_1249 (by decide) (fun c1249 => ?_) (fun c1249 => absurd (hx1.trans hy1.symm) c1249)
  exact kt _ ⟨_, _, _, _, _, _, _, _, hR2, hX2, hM2, hN2, hgk, fun _ => hgk⟩
set_option maxRecDepth 100000 in
set_option maxHeartbeats 4000000 in
theorem lk_on {G : gJ} {xs : Nat → Int32} {L : Nat} (h : gR RL cL_law 12 458 G) (hs : ∀ (pc : Nat) (ls st : List Value) (g : gG) (i : Nat), decode cL_law pc = .ok (.iaload, 1) → i < L → G (pc + 1) ls (.int (xs i) :: st) g → G pc ls (.int (nI i) :: .ref 200 :: st) g) {i : Nat} (hi : i + 6 ≤ L) {g : gG} (hI : Inv g) (kt : ∀ g1, Inv g1 → G 1290 [.ref 200, .ref 0, .ref 35, .int (nI i)] [] g1) : G 1254 [.ref 200, .ref 0, .ref 35, .int (nI i)] [] g := by
  obtain ⟨c, ck, hk, lt, nl, rv, nr, rf, hR, hX, hM, hN, ⟨ho, hd⟩, hck⟩ := hI
  have hgk : gk c := ⟨ho, hd⟩
  refine r_aload_n (pc := 1254) h dL_law_1254 rfl ?_
  refine r_callVi (pc := 1255) (As := []) h dL_law_1255 k_L_171 gc_0 rfl ⟨Nat.le_of_ble_eq_true rfl, Nat.le_of_ble_eq_true rfl, Nat.le_of_ble_eq_true rfl⟩ (x_on hR hX ho hd) (fun x_1255 g1 hq => ?_)
  obtain ⟨hx1, hR1, hX1, hF1⟩ := hq
  have hM1 := hM.fx hF1
  have hN1 := hN.fx hF1
  refine r_aload_n (pc := 1258) h dL_law_1258 rfl ?_
  refine r_callVi (pc := 1259) (As := []) h dL_law_1259 k_L_174 gc_35 rfl ⟨Nat.le_of_ble_eq_true rfl, Nat.le_of_ble_eq_true rfl, Nat.le_of_ble_eq_true rfl⟩ (y_on hM1 hN1 ho hd) (fun x_1259 g2 hq => ?_)
  obtain ⟨hy1, hM2, hN2, hF2⟩ := hq
  have hR2 := hR1.fy hF2
  have hX2 := hX1.fy hF2
  refine r_icmp_eq (pc := 1262) (tgt := 1290) h dL_law_1262 (by decide) (fun c1262 => ?_) (fun c1262 => absurd (hx1.trans hy1.symm) c1262)
  exact kt _ ⟨_, _, _, _, _, _, _, _, hR2, hX2, hM2, hN2, gk_if hck hgk, hck⟩
set_option maxRecDepth 100000 in
set_option maxHeartbeats 4000000 in
theorem lk_count {G : gJ} {xs : Nat → Int32} {L : Nat} (h : gR RL cL_law 12 458 G) (hs : ∀ (pc : Nat) (ls st : List Value) (g : gG) (i : Nat), decode cL_law pc = .ok (.iaload, 1) → i < L → G (pc + 1) ls (.int (xs i) :: st) g → G pc ls (.int (nI i) :: .ref 200 :: st) g) {i : Nat} (hi : i + 6 ≤ L) {g : gG} (hI : Inv g) (kt : ∀ g1, Inv g1 → G 1290 [.ref 200, .ref 0, .ref 35, .int (nI i)] [] g1) : G 1267 [.ref 200, .ref 0, .ref 35, .int (nI i)] [] g := by
  obtain ⟨c, ck, hk, lt, nl, rv, nr, rf, hR, hX, hM, hN, ⟨ho, hd⟩, hck⟩ := hI
  have hgk : gk c := ⟨ho, hd⟩
  refine r_aload_n (pc := 1267) h dL_law_1267 rfl ?_
  refine r_aload_n (pc := 1268) h dL_law_1268 rfl ?_
  refine r_iload_n (pc := 1269) h dL_law_1269 rfl ?_
  refine r_iconst (pc := 1270) h dL_law_1270 ci_1 ?_
  refine r_iadd (pc := 1271) h dL_law_1271 ?_
  refine r_top (y := nI (i + 1)) h (nI_add _ _) ?_
  refine hs 1272 _ _ _ _ dL_law_1272 (by omega) ?_
  refine r_callVi (pc := 1273) (As := [_]) h dL_law_1273 k_L_175 gc_0 rfl ⟨Nat.le_of_ble_eq_true rfl, Nat.le_of_ble_eq_true rfl, Nat.le_of_ble_eq_true rfl⟩ (x_count hR hX ho hd _) (fun x_1273 g1 hq => ?_)
  obtain ⟨hx1, hR1, hX1, hF1⟩ := hq
  have hM1 := hM.fx hF1
  have hN1 := hN.fx hF1
  refine r_aload_n (pc := 1276) h dL_law_1276 rfl ?_
  refine r_aload_n (pc := 1277) h dL_law_1277 rfl ?_
  refine r_iload_n (pc := 1278) h dL_law_1278 rfl ?_
  refine r_iconst (pc := 1279) h dL_law_1279 ci_1 ?_
  refine r_iadd (pc := 1280) h dL_law_1280 ?_
  refine r_top (y := nI (i + 1)) h (nI_add _ _) ?_
  refine hs 1281 _ _ _ _ dL_law_1281 (by omega) ?_
  refine r_callVi (pc := 1282) (As := [_]) h dL_law_1282 k_L_178 gc_35 rfl ⟨Nat.le_of_ble_eq_true rfl, Nat.le_of_ble_eq_true rfl, Nat.le_of_ble_eq_true rfl⟩ (y_count hM1 hN1 ho hd _) (fun x_1282 g2 hq => ?_)
  obtain ⟨hy1, hM2, hN2, hF2⟩ := hq
  have hR2 := hR1.fy hF2
  have hX2 := hX1.fy hF2
  refine r_icmp_eq (pc := 1285) (tgt := 1290) h dL_law_1285 (by decide) (fun c1285 => ?_) (fun c1285 => absurd (hx1.trans hy1.symm) c1285)
  exact kt _ ⟨_, _, _, _, _, _, _, _, hR2, hX2, hM2, hN2, hgk, hck⟩
set_option maxRecDepth 100000 in
set_option maxHeartbeats 4000000 in
theorem law_loop {G : gJ} {xs : Nat → Int32} {L : Nat} (hL : L ≤ 3072) (h : gR RL cL_law 12 458 G) (hs : ∀ (pc : Nat) (ls st : List Value) (g : gG) (i : Nat), decode cL_law pc = .ok (.iaload, 1) → i < L → G (pc + 1) ls (.int (xs i) :: st) g → G pc ls (.int (nI i) :: .ref 200 :: st) g) (hn : ∀ (pc : Nat) (ls st : List Value) (g : gG), decode cL_law pc = .ok (.arraylength, 1) → G (pc + 1) ls (.int (nI L) :: st) g → G pc ls (.ref 200 :: st) g) (ht : ∀ (pc : Nat) (ls : List Value) (g : gG), decode cL_law pc = .ok (.ireturn, 1) → G pc ls [.int (nI 1)] g) : ∀ f i (g : gG), L ≤ i + f → i ≤ 4000 → Inv g → G 18 [.ref 200, .ref 0, .ref 35, .int (nI i)] [] g := by
  intro f
  induction f using Nat.strongRecOn with
  | _ f ih0 =>
    intro i g hf hi4 hI
    have ih : ∀ i2 (g : gG), i2 = i + 6 → i + 6 ≤ L → Inv g → G 18 [.ref 200, .ref 0, .ref 35, .int (nI i2)] [] g := by
      intro i2 g2 e hle hI2
      exact ih0 (f - 1) (by omega) i2 g2 (by omega) (by omega) hI2
    refine r_iload_n (pc := 18) h dL_law_18 rfl ?_
    refine r_aload_n (pc := 19) h dL_law_19 rfl ?_
    refine hn 20 _ _ _ dL_law_20 ?_
    refine r_bipush (pc := 21) h dL_law_21 cb_6 ?_
    refine r_isub (pc := 23) h dL_law_23 ?_
    refine r_icmp_gt (pc := 24) (tgt := 1296) h dL_law_24 (by decide) (fun c24 => ?_) (fun c24 => ?_)
    · refine r_iconst (pc := 1296) h dL_law_1296 ci_1 ?_
      exact ht 1297 _ _ dL_law_1297
    · have hi : i + 6 ≤ L := lw_le hL hi4 c24
      have kt : ∀ g1, Inv g1 → G 1290 [.ref 200, .ref 0, .ref 35, .int (nI i)] [] g1 := by
        intro g1 hI1
        refine r_iinc (pc := 1290) (ls2 := [_, _, _, _]) h dL_law_1290 rfl (ic6 i) rfl ?_
        refine r_goto (pc := 1293) (tgt := 18) h dL_law_1293 (by decide) ?_
        exact ih (i + 6) _ rfl hi hI1
      refine r_aload_n (pc := 27) h dL_law_27 rfl ?_
      refine r_iload_n (pc := 28) h dL_law_28 rfl ?_
      refine hs 29 _ _ _ _ dL_law_29 (by omega) ?_
      refine r_bipush (pc := 30) h dL_law_30 cb_63 ?_
      refine r_iand (pc := 32) h dL_law_32 ?_
      obtain ⟨j, hj, ej⟩ := pk_andE (xs i) (m := nI 63) 6 (by decide)
      refine r_top (y := nI j) h ej ?_
      by_cases hj40 : j < 40
      · have hcase : j = 0 ∨ j = 1 ∨ j = 2 ∨ j = 3 ∨ j = 4 ∨ j = 5 ∨ j = 6 ∨ j = 7 ∨ j = 8 ∨ j = 9 ∨ j = 10 ∨ j = 11 ∨ j = 12 ∨ j = 13 ∨ j = 14 ∨ j = 15 ∨ j = 16 ∨ j = 17 ∨ j = 18 ∨ j = 19 ∨ j = 20 ∨ j = 21 ∨ j = 22 ∨ j = 23 ∨ j = 24 ∨ j = 25 ∨ j = 26 ∨ j = 27 ∨ j = 28 ∨ j = 29 ∨ j = 30 ∨ j = 31 ∨ j = 32 ∨ j = 33 ∨ j = 34 ∨ j = 35 ∨ j = 36 ∨ j = 37 ∨ j = 38 ∨ j = 39 := by omega
        rcases hcase with rfl | rfl | rfl | rfl | rfl | rfl | rfl | rfl | rfl | rfl | rfl | rfl | rfl | rfl | rfl | rfl | rfl | rfl | rfl | rfl | rfl | rfl | rfl | rfl | rfl | rfl | rfl | rfl | rfl | rfl | rfl | rfl | rfl | rfl | rfl | rfl | rfl | rfl | rfl | rfl
        · refine r_tabIn (pc := 33) (o := 175) (tgt := 208) h dL_law_33 (by decide) (by decide) (by decide) (by decide) ?_
          exact lk_letter h hs hi hI kt
        · refine r_tabIn (pc := 33) (o := 198) (tgt := 231) h dL_law_33 (by decide) (by decide) (by decide) (by decide) ?_
          exact lk_city h hs hi hI kt
        · refine r_tabIn (pc := 33) (o := 211) (tgt := 244) h dL_law_33 (by decide) (by decide) (by decide) (by decide) ?_
          exact lk_suit h hs hi hI kt
        · refine r_tabIn (pc := 33) (o := 244) (tgt := 277) h dL_law_33 (by decide) (by decide) (by decide) (by decide) ?_
          exact lk_caller h hs hi hI kt
        · refine r_tabIn (pc := 33) (o := 277) (tgt := 310) h dL_law_33 (by decide) (by decide) (by decide) (by decide) ?_
          exact lk_courage h hs hi hI kt
        · refine r_tabIn (pc := 33) (o := 300) (tgt := 333) h dL_law_33 (by decide) (by decide) (by decide) (by decide) ?_
          exact lk_wears h hs hi hI kt
        · refine r_tabIn (pc := 33) (o := 333) (tgt := 366) h dL_law_33 (by decide) (by decide) (by decide) (by decide) ?_
          exact lk_takesOff h hs hi hI kt
        · refine r_tabIn (pc := 33) (o := 356) (tgt := 389) h dL_law_33 (by decide) (by decide) (by decide) (by decide) ?_
          exact lk_fears h hs hi hI kt
        · refine r_tabIn (pc := 33) (o := 389) (tgt := 422) h dL_law_33 (by decide) (by decide) (by decide) (by decide) ?_
          exact lk_rusts h hs hi hI kt
        · refine r_tabIn (pc := 33) (o := 422) (tgt := 455) h dL_law_33 (by decide) (by decide) (by decide) (by decide) ?_
          exact lk_soothes h hs hi hI kt
        · refine r_tabIn (pc := 33) (o := 455) (tgt := 488) h dL_law_33 (by decide) (by decide) (by decide) (by decide) ?_
          exact lk_turn h hs hi hI kt
        · refine r_tabIn (pc := 33) (o := 498) (tgt := 531) h dL_law_33 (by decide) (by decide) (by decide) (by decide) ?_
          exact lk_days h hs hi hI kt
        · refine r_tabIn (pc := 33) (o := 521) (tgt := 554) h dL_law_33 (by decide) (by decide) (by decide) (by decide) ?_
          exact lk_callerThen h hs hi hI kt
        · refine r_tabIn (pc := 33) (o := 564) (tgt := 597) h dL_law_33 (by decide) (by decide) (by decide) (by decide) ?_
          exact lk_suitThen h hs hi hI kt
        · refine r_tabIn (pc := 33) (o := 597) (tgt := 630) h dL_law_33 (by decide) (by decide) (by decide) (by decide) ?_
          exact lk_cost h hs hi hI kt
        · refine r_tabIn (pc := 33) (o := 620) (tgt := 653) h dL_law_33 (by decide) (by decide) (by decide) (by decide) ?_
          exact lk_proposes h hs hi hI kt
        · refine r_tabIn (pc := 33) (o := 643) (tgt := 676) h dL_law_33 (by decide) (by decide) (by decide) (by decide) ?_
          exact lk_out h hs hi hI kt
        · refine r_tabIn (pc := 33) (o := 666) (tgt := 699) h dL_law_33 (by decide) (by decide) (by decide) (by decide) ?_
          exact lk_still h hs hi hI kt
        · refine r_tabIn (pc := 33) (o := 679) (tgt := 712) h dL_law_33 (by decide) (by decide) (by decide) (by decide) ?_
          exact lk_dress h hs hi hI kt
        · refine r_tabIn (pc := 33) (o := 702) (tgt := 735) h dL_law_33 (by decide) (by decide) (by decide) (by decide) ?_
          exact lk_suitBest h hs hi hI kt
        · refine r_tabIn (pc := 33) (o := 745) (tgt := 778) h dL_law_33 (by decide) (by decide) (by decide) (by decide) ?_
          exact lk_change h hs hi hI kt
        · refine r_tabIn (pc := 33) (o := 768) (tgt := 801) h dL_law_33 (by decide) (by decide) (by decide) (by decide) ?_
          exact lk_fewest h hs hi hI kt
        · refine r_tabIn (pc := 33) (o := 791) (tgt := 824) h dL_law_33 (by decide) (by decide) (by decide) (by decide) ?_
          exact lk_spare h hs hi hI kt
        · refine r_tabIn (pc := 33) (o := 824) (tgt := 857) h dL_law_33 (by decide) (by decide) (by decide) (by decide) ?_
          exact lk_cheer h hs hi hI kt
        · refine r_tabIn (pc := 33) (o := 847) (tgt := 880) h dL_law_33 (by decide) (by decide) (by decide) (by decide) ?_
          exact lk_boldest h hs hi hI kt
        · refine r_tabIn (pc := 33) (o := 870) (tgt := 903) h dL_law_33 (by decide) (by decide) (by decide) (by decide) ?_
          exact lk_left h hs hi hI kt
        · refine r_tabIn (pc := 33) (o := 883) (tgt := 916) h dL_law_33 (by decide) (by decide) (by decide) (by decide) ?_
          exact lk_order h hs hi hI kt
        · refine r_tabIn (pc := 33) (o := 906) (tgt := 939) h dL_law_33 (by decide) (by decide) (by decide) (by decide) ?_
          exact lk_heard h hs hi hI kt
        · refine r_tabIn (pc := 33) (o := 929) (tgt := 962) h dL_law_33 (by decide) (by decide) (by decide) (by decide) ?_
          exact lk_rusted h hs hi hI kt
        · refine r_tabIn (pc := 33) (o := 952) (tgt := 985) h dL_law_33 (by decide) (by decide) (by decide) (by decide) ?_
          exact lk_two h hs hi hI kt
        · refine r_tabIn (pc := 33) (o := 995) (tgt := 1028) h dL_law_33 (by decide) (by decide) (by decide) (by decide) ?_
          exact lk_rain h hs hi hI kt
        · refine r_tabIn (pc := 33) (o := 1059) (tgt := 1092) h dL_law_33 (by decide) (by decide) (by decide) (by decide) ?_
          exact lk_mean h hs hi hI kt
        · refine r_tabIn (pc := 33) (o := 1083) (tgt := 1116) h dL_law_33 (by decide) (by decide) (by decide) (by decide) ?_
          exact lk_whatIs h hs hi hI kt
        · refine r_tabIn (pc := 33) (o := 1116) (tgt := 1149) h dL_law_33 (by decide) (by decide) (by decide) (by decide) ?_
          exact lk_row h hs hi hI kt
        · refine r_tabIn (pc := 33) (o := 1139) (tgt := 1172) h dL_law_33 (by decide) (by decide) (by decide) (by decide) ?_
          exact lk_judge h hs hi hI kt
        · refine r_tabIn (pc := 33) (o := 1152) (tgt := 1185) h dL_law_33 (by decide) (by decide) (by decide) (by decide) ?_
          exact lk_clear h hs hi hI kt
        · refine r_tabIn (pc := 33) (o := 1165) (tgt := 1198) h dL_law_33 (by decide) (by decide) (by decide) (by decide) ?_
          exact lk_lots h hs hi hI kt
        · refine r_tabIn (pc := 33) (o := 1208) (tgt := 1241) h dL_law_33 (by decide) (by decide) (by decide) (by decide) ?_
          exact lk_image h hs hi hI kt
        · refine r_tabIn (pc := 33) (o := 1221) (tgt := 1254) h dL_law_33 (by decide) (by decide) (by decide) (by decide) ?_
          exact lk_on h hs hi hI kt
        · refine r_tabIn (pc := 33) (o := 1234) (tgt := 1267) h dL_law_33 (by decide) (by decide) (by decide) (by decide) ?_
          exact lk_count h hs hi hI kt
      · refine r_tabOut (pc := 33) (tgt := 1290) h dL_law_33 (by rw [nI_toInt (by omega)]; omega) (by decide) ?_
        exact kt g hI
