/-! the cases of the law that call a wrapper; written by cls20.py -/
set_option maxHeartbeats 400000 in
set_option maxRecDepth 100000 in
theorem case_setParent {p : Program} {l : Launch} {e : Jvm.Env} {s : State} {m : MethodId} {args : Array Value} {below : List Frame} {meth : Method} {c : Code} {H : Heap} {locs : List Loc} {cells slots : Nat} {Q : State → Prop} {ls : Array Slot} {b L : Nat} {xs : Nat → Int32} {E : Env3} {γ α ρ : Nat → Nat} {o : Nat} {A : Nat → Prop} (hC : LawC p l s m args meth c b L xs E γ α ρ o A) (i : Nat) (hi4 : i + 4 ≤ L) (hl : lv_has ls 9 (lvL b γ ρ o i)) (hD : Dyn s E γ α ρ o A H locs) (hr1 : cells + 1 ≤ room_1.cells) (hr2 : slots + 6 ≤ room_1.slots)
    (kk : ∀ (H1 : Heap) (locs1 : List Loc) (ls1 : Array Slot), Dyn s E γ α ρ o A H1 locs1 → lv_has ls1 9 (lvL b γ ρ o i) → W p l e room_1 s m args below meth c H1 locs1 (cells + 1) (slots + 6) Q (F0 m 1775 ls1 [])) : W p l e room_1 s m args below meth c H locs cells slots Q (F0 m 192 ls []) := by
  obtain ⟨⟨hx, hb, hr, hml, hown, hlocks, hts⟩, ⟨hX, hbl, hL8⟩, ⟨hK, hKX, hZ, hl0⟩, ⟨hA, hA2, ho, hoA, hoR, hAR, hρ⟩⟩ := id hC
  obtain ⟨st, sv, n, N, tx, hi, hLI, hc, hrf, hou, hS⟩ := hD
  have hl : lv_has ls 9 [(0, .ref b), (1, .ref (γ 0)), (2, .ref (ρ 0)), (3, .ref o), (4, .int (I (i : Int)))] := hl
  obtain ⟨k, b9, ov, st', sv', n', N', tx', hi', hM1, hM2, hLI, hov, hk, hB⟩ := op_setParent l hl0 E γ α ρ o A hoA hρ st sv n N tx hi hLI (xs (i + 1)) (xs (i + 2))
  have hAo : ∀ q, (A q ∨ q = o) → s.heap.size ≤ q := fun q h9 => h9.elim (hA q) (fun e9 => e9 ▸ ho)
  refine lv_aload_n hx hb dL_law_192 rfl (lv_lk hl rfl) ?_
  refine L_arg hC hS hl (i := i) rfl rfl 1 rfl (by omega) dL_law_193 dL_law_194 dL_law_196 dL_law_197 dL_law_198 ?_
  refine L_arg hC hS hl (i := i) rfl rfl 2 rfl (by omega) dL_law_199 dL_law_200 dL_law_202 dL_law_203 dL_law_204 ?_
  refine lv_aload_n hx hb dL_law_205 rfl (lv_lk hl rfl) ?_
  refine call_O (vx_runSW ⟨hx, hb, hml, hown, hts⟩ hM1 (vx_cwSW 4 hts (gi_S ml_L_96 st_L_setParent it_L cd_L_setParent) rfl rfl rfl (by decide +kernel) ⟨Nat.le_of_ble_eq_true rfl, Nat.le_of_ble_eq_true rfl⟩) (pX_S hK hKX ((hZ.kept hS.2.1).narrow hAo) ⟨hc, hou⟩) rfl rfl hl.1 rfl (lv_room (Nat.le_of_ble_eq_true rfl)) dL_law_206 ⟨hr1, hr2⟩) hAo hS (fun H1 locs k1 k2 hc v hv hvk hS => ?_)
  have hrf := RPa_on _ _ hrf k1 (fun q hq h9 => k2 q hq (fun h8 => h8.elim (fun h7 => hAR q h7 h9) (fun h7 => hoR (h7 ▸ h9))))
  refine lv_istore (lv' := [(5, .int (I k)), (0, .ref b), (1, .ref (γ 0)), (2, .ref (ρ 0)), (3, .ref o), (4, .int (I (i : Int)))]) hx hb dL_law_209 hl (by decide) rfl (fun ls hl => ?_)
  refine lv_aload_n hx hb dL_law_211 rfl (lv_lk hl rfl) ?_
  refine L_arg hC hS hl (i := i) rfl rfl 1 rfl (by omega) dL_law_212 dL_law_213 dL_law_215 dL_law_216 dL_law_217 ?_
  refine L_arg hC hS hl (i := i) rfl rfl 2 rfl (by omega) dL_law_218 dL_law_219 dL_law_221 dL_law_222 dL_law_223 ?_
  refine call_P (va_runV ⟨hx, hb, hml, hown, hts⟩ hM2 (cwV 2 hts (gi_V ml_L_101 im_X6_setParent sl_X6_setParent it_X6 cd_X6_setParent) rfl rfl rfl (by decide +kernel) ⟨Nat.le_of_ble_eq_true rfl, Nat.le_of_ble_eq_true rfl⟩) (pP_V hK hrf (RPa_0 _ hrf) rfl) rfl rfl hl.1 rfl (lv_room (Nat.le_of_ble_eq_true rfl)) dL_law_224 ⟨hr1, hr2⟩) hA2 hS rfl (fun H2 locs j1 j2 hrf hS => ?_)
  have hc := CP_on _ _ hc j1 (fun q hq h9 => j2 q hq (hAR q h9))
  have hv := hv.kept (j2 o hv.lt hoR)
  refine lv_istore (lv' := [(6, .int (I b9)), (5, .int (I k)), (0, .ref b), (1, .ref (γ 0)), (2, .ref (ρ 0)), (3, .ref o), (4, .int (I (i : Int)))]) hx hb dL_law_227 hl (by decide) rfl (fun ls hl => ?_)
  refine lv_aload_n hx hb dL_law_229 rfl (lv_lk hl rfl) ?_
  refine call_P (A1 := noA) (va_runV ⟨hx, hb, hml, hown, hts⟩ thr_P (cwV 0 hts (gi_V ml_L_102 im_X6_thrown sl_X6_thrown it_X6 cd_X6_thrown) rfl rfl rfl (by decide +kernel) ⟨Nat.le_of_ble_eq_true rfl, Nat.le_of_ble_eq_true rfl⟩) (pP_V hK hrf (RP_0 hrf) rfl) rfl rfl hl.1 rfl (lv_room (Nat.le_of_ble_eq_true rfl)) dL_law_230 ⟨hr1, hr2⟩) (fun _ h9 => h9.elim) hS rfl (fun H3 locs i1 i2 _ hS => ?_)
  have hc := CP_on _ _ hc i1 (fun q hq _ => i2 q hq (fun h9 => h9))
  have hrf := RP_on _ _ hrf i1 (fun q hq _ => i2 q hq (fun h9 => h9))
  have hv := hv.kept (i2 o hv.lt (fun h9 => h9))
  refine lv_iload hx hb dL_law_233 (lv_lk hl rfl) ?_
  refine iv_icmp_eq (tgt := 240) hx hb dL_law_235 (by decide) (by omega) (by omega) (fun _ => ?_) (fun h9 => absurd rfl h9)
  refine lv_iload hx hb dL_law_240 (lv_lk hl rfl) ?_
  refine iv_if_ne (tgt := 257) hx hb dL_law_242 (by decide) (by omega) (fun _ => ?_) (fun e0 => ?_)
  · refine lv_goto (tgt := 1775) hx hb dL_law_257 (by decide) ?_
    exact kk _ _ _ ⟨st', sv', n', N', tx', hi', hLI, hc, ⟨_, hrf⟩, ⟨_, hv⟩, hS⟩ (lv_sub hl [2, 3, 4, 5, 6] rfl)
  · obtain rfl := (hvk e0).trans (hov e0)
    refine lv_aload_n hx hb dL_law_245 rfl (lv_lk hl rfl) ?_
    refine iv_iconst hx hb dL_law_246 ?_
    refine L_out hx hb hK hv dL_law_247 ?_
    refine lv_iload hx hb dL_law_248 (lv_lk hl rfl) ?_
    refine lv_i2l hx hb dL_law_250 rfl ?_
    refine W.lcmp hx hb dL_law_251 ?_
    rw [lg_cmp_self]
    refine iv_if_eq (tgt := 257) hx hb dL_law_252 (by decide) (by omega) (fun _ => ?_) (fun h9 => absurd rfl h9)
    refine lv_goto (tgt := 1775) hx hb dL_law_257 (by decide) ?_
    exact kk _ _ _ ⟨st', sv', n', N', tx', hi', hLI, hc, ⟨_, hrf⟩, ⟨_, hv⟩, hS⟩ (lv_sub hl [2, 3, 4, 5, 6] rfl)
set_option maxHeartbeats 400000 in
set_option maxRecDepth 100000 in
theorem case_setAges {p : Program} {l : Launch} {e : Jvm.Env} {s : State} {m : MethodId} {args : Array Value} {below : List Frame} {meth : Method} {c : Code} {H : Heap} {locs : List Loc} {cells slots : Nat} {Q : State → Prop} {ls : Array Slot} {b L : Nat} {xs : Nat → Int32} {E : Env3} {γ α ρ : Nat → Nat} {o : Nat} {A : Nat → Prop} (hC : LawC p l s m args meth c b L xs E γ α ρ o A) (i : Nat) (hi4 : i + 4 ≤ L) (hl : lv_has ls 9 (lvL b γ ρ o i)) (hD : Dyn s E γ α ρ o A H locs) (hr1 : cells + 1 ≤ room_1.cells) (hr2 : slots + 6 ≤ room_1.slots)
    (kk : ∀ (H1 : Heap) (locs1 : List Loc) (ls1 : Array Slot), Dyn s E γ α ρ o A H1 locs1 → lv_has ls1 9 (lvL b γ ρ o i) → W p l e room_1 s m args below meth c H1 locs1 (cells + 1) (slots + 6) Q (F0 m 1775 ls1 [])) : W p l e room_1 s m args below meth c H locs cells slots Q (F0 m 260 ls []) := by
  obtain ⟨⟨hx, hb, hr, hml, hown, hlocks, hts⟩, ⟨hX, hbl, hL8⟩, ⟨hK, hKX, hZ, hl0⟩, ⟨hA, hA2, ho, hoA, hoR, hAR, hρ⟩⟩ := id hC
  obtain ⟨st, sv, n, N, tx, hi, hLI, hc, hrf, hou, hS⟩ := hD
  have hl : lv_has ls 9 [(0, .ref b), (1, .ref (γ 0)), (2, .ref (ρ 0)), (3, .ref o), (4, .int (I (i : Int)))] := hl
  obtain ⟨k, b9, ov, st', sv', n', N', tx', hi', hM1, hM2, hLI, hov, hk, hB⟩ := op_setAges l hl0 E γ α ρ o A hoA hρ st sv n N tx hi hLI (xs (i + 1)) (xs (i + 2)) (xs (i + 3))
  have hAo : ∀ q, (A q ∨ q = o) → s.heap.size ≤ q := fun q h9 => h9.elim (hA q) (fun e9 => e9 ▸ ho)
  refine lv_aload_n hx hb dL_law_260 rfl (lv_lk hl rfl) ?_
  refine L_arg hC hS hl (i := i) rfl rfl 1 rfl (by omega) dL_law_261 dL_law_262 dL_law_264 dL_law_265 dL_law_266 ?_
  refine L_arg hC hS hl (i := i) rfl rfl 2 rfl (by omega) dL_law_267 dL_law_268 dL_law_270 dL_law_271 dL_law_272 ?_
  refine L_arg hC hS hl (i := i) rfl rfl 3 rfl (by omega) dL_law_273 dL_law_274 dL_law_276 dL_law_277 dL_law_278 ?_
  refine lv_aload_n hx hb dL_law_279 rfl (lv_lk hl rfl) ?_
  refine call_O (vx_runSW ⟨hx, hb, hml, hown, hts⟩ hM1 (vx_cwSW 5 hts (gi_S ml_L_105 st_L_setAges it_L cd_L_setAges) rfl rfl rfl (by decide +kernel) ⟨Nat.le_of_ble_eq_true rfl, Nat.le_of_ble_eq_true rfl⟩) (pX_S hK hKX ((hZ.kept hS.2.1).narrow hAo) ⟨hc, hou⟩) rfl rfl hl.1 rfl (lv_room (Nat.le_of_ble_eq_true rfl)) dL_law_280 ⟨hr1, hr2⟩) hAo hS (fun H1 locs k1 k2 hc v hv hvk hS => ?_)
  have hrf := RPa_on _ _ hrf k1 (fun q hq h9 => k2 q hq (fun h8 => h8.elim (fun h7 => hAR q h7 h9) (fun h7 => hoR (h7 ▸ h9))))
  refine lv_istore (lv' := [(5, .int (I k)), (0, .ref b), (1, .ref (γ 0)), (2, .ref (ρ 0)), (3, .ref o), (4, .int (I (i : Int)))]) hx hb dL_law_283 hl (by decide) rfl (fun ls hl => ?_)
  refine lv_aload_n hx hb dL_law_285 rfl (lv_lk hl rfl) ?_
  refine L_arg hC hS hl (i := i) rfl rfl 1 rfl (by omega) dL_law_286 dL_law_287 dL_law_289 dL_law_290 dL_law_291 ?_
  refine L_arg hC hS hl (i := i) rfl rfl 2 rfl (by omega) dL_law_292 dL_law_293 dL_law_295 dL_law_296 dL_law_297 ?_
  refine L_arg hC hS hl (i := i) rfl rfl 3 rfl (by omega) dL_law_298 dL_law_299 dL_law_301 dL_law_302 dL_law_303 ?_
  refine call_P (va_runV ⟨hx, hb, hml, hown, hts⟩ hM2 (cwV 3 hts (gi_V ml_L_108 im_X6_setAges sl_X6_setAges it_X6 cd_X6_setAges) rfl rfl rfl (by decide +kernel) ⟨Nat.le_of_ble_eq_true rfl, Nat.le_of_ble_eq_true rfl⟩) (pP_V hK hrf (RPa_0 _ hrf) rfl) rfl rfl hl.1 rfl (lv_room (Nat.le_of_ble_eq_true rfl)) dL_law_304 ⟨hr1, hr2⟩) hA2 hS rfl (fun H2 locs j1 j2 hrf hS => ?_)
  have hc := CP_on _ _ hc j1 (fun q hq h9 => j2 q hq (hAR q h9))
  have hv := hv.kept (j2 o hv.lt hoR)
  refine lv_istore (lv' := [(6, .int (I b9)), (5, .int (I k)), (0, .ref b), (1, .ref (γ 0)), (2, .ref (ρ 0)), (3, .ref o), (4, .int (I (i : Int)))]) hx hb dL_law_307 hl (by decide) rfl (fun ls hl => ?_)
  refine lv_aload_n hx hb dL_law_309 rfl (lv_lk hl rfl) ?_
  refine call_P (A1 := noA) (va_runV ⟨hx, hb, hml, hown, hts⟩ thr_P (cwV 0 hts (gi_V ml_L_102 im_X6_thrown sl_X6_thrown it_X6 cd_X6_thrown) rfl rfl rfl (by decide +kernel) ⟨Nat.le_of_ble_eq_true rfl, Nat.le_of_ble_eq_true rfl⟩) (pP_V hK hrf (RP_0 hrf) rfl) rfl rfl hl.1 rfl (lv_room (Nat.le_of_ble_eq_true rfl)) dL_law_310 ⟨hr1, hr2⟩) (fun _ h9 => h9.elim) hS rfl (fun H3 locs i1 i2 _ hS => ?_)
  have hc := CP_on _ _ hc i1 (fun q hq _ => i2 q hq (fun h9 => h9))
  have hrf := RP_on _ _ hrf i1 (fun q hq _ => i2 q hq (fun h9 => h9))
  have hv := hv.kept (i2 o hv.lt (fun h9 => h9))
  refine lv_iload hx hb dL_law_313 (lv_lk hl rfl) ?_
  refine iv_icmp_eq (tgt := 320) hx hb dL_law_315 (by decide) (by omega) (by omega) (fun _ => ?_) (fun h9 => absurd rfl h9)
  refine lv_iload hx hb dL_law_320 (lv_lk hl rfl) ?_
  refine iv_if_ne (tgt := 337) hx hb dL_law_322 (by decide) (by omega) (fun _ => ?_) (fun e0 => ?_)
  · refine lv_goto (tgt := 1775) hx hb dL_law_337 (by decide) ?_
    exact kk _ _ _ ⟨st', sv', n', N', tx', hi', hLI, hc, ⟨_, hrf⟩, ⟨_, hv⟩, hS⟩ (lv_sub hl [2, 3, 4, 5, 6] rfl)
  · obtain rfl := (hvk e0).trans (hov e0)
    refine lv_aload_n hx hb dL_law_325 rfl (lv_lk hl rfl) ?_
    refine iv_iconst hx hb dL_law_326 ?_
    refine L_out hx hb hK hv dL_law_327 ?_
    refine lv_iload hx hb dL_law_328 (lv_lk hl rfl) ?_
    refine lv_i2l hx hb dL_law_330 rfl ?_
    refine W.lcmp hx hb dL_law_331 ?_
    rw [lg_cmp_self]
    refine iv_if_eq (tgt := 337) hx hb dL_law_332 (by decide) (by omega) (fun _ => ?_) (fun h9 => absurd rfl h9)
    refine lv_goto (tgt := 1775) hx hb dL_law_337 (by decide) ?_
    exact kk _ _ _ ⟨st', sv', n', N', tx', hi', hLI, hc, ⟨_, hrf⟩, ⟨_, hv⟩, hS⟩ (lv_sub hl [2, 3, 4, 5, 6] rfl)
set_option maxHeartbeats 400000 in
set_option maxRecDepth 100000 in
theorem case_setAnswer {p : Program} {l : Launch} {e : Jvm.Env} {s : State} {m : MethodId} {args : Array Value} {below : List Frame} {meth : Method} {c : Code} {H : Heap} {locs : List Loc} {cells slots : Nat} {Q : State → Prop} {ls : Array Slot} {b L : Nat} {xs : Nat → Int32} {E : Env3} {γ α ρ : Nat → Nat} {o : Nat} {A : Nat → Prop} (hC : LawC p l s m args meth c b L xs E γ α ρ o A) (i : Nat) (hi4 : i + 4 ≤ L) (hl : lv_has ls 9 (lvL b γ ρ o i)) (hD : Dyn s E γ α ρ o A H locs) (hr1 : cells + 1 ≤ room_1.cells) (hr2 : slots + 6 ≤ room_1.slots)
    (kk : ∀ (H1 : Heap) (locs1 : List Loc) (ls1 : Array Slot), Dyn s E γ α ρ o A H1 locs1 → lv_has ls1 9 (lvL b γ ρ o i) → W p l e room_1 s m args below meth c H1 locs1 (cells + 1) (slots + 6) Q (F0 m 1775 ls1 [])) : W p l e room_1 s m args below meth c H locs cells slots Q (F0 m 340 ls []) := by
  obtain ⟨⟨hx, hb, hr, hml, hown, hlocks, hts⟩, ⟨hX, hbl, hL8⟩, ⟨hK, hKX, hZ, hl0⟩, ⟨hA, hA2, ho, hoA, hoR, hAR, hρ⟩⟩ := id hC
  obtain ⟨st, sv, n, N, tx, hi, hLI, hc, hrf, hou, hS⟩ := hD
  have hl : lv_has ls 9 [(0, .ref b), (1, .ref (γ 0)), (2, .ref (ρ 0)), (3, .ref o), (4, .int (I (i : Int)))] := hl
  obtain ⟨k, b9, ov, st', sv', n', N', tx', hi', hM1, hM2, hLI, hov, hk, hB⟩ := op_setAnswer l hl0 E γ α ρ o A hoA hρ st sv n N tx hi hLI (xs (i + 1)) (xs (i + 2)) (xs (i + 3))
  have hAo : ∀ q, (A q ∨ q = o) → s.heap.size ≤ q := fun q h9 => h9.elim (hA q) (fun e9 => e9 ▸ ho)
  refine lv_aload_n hx hb dL_law_340 rfl (lv_lk hl rfl) ?_
  refine L_arg hC hS hl (i := i) rfl rfl 1 rfl (by omega) dL_law_341 dL_law_342 dL_law_344 dL_law_345 dL_law_346 ?_
  refine L_arg hC hS hl (i := i) rfl rfl 2 rfl (by omega) dL_law_347 dL_law_348 dL_law_350 dL_law_351 dL_law_352 ?_
  refine L_arg hC hS hl (i := i) rfl rfl 3 rfl (by omega) dL_law_353 dL_law_354 dL_law_356 dL_law_357 dL_law_358 ?_
  refine lv_aload_n hx hb dL_law_359 rfl (lv_lk hl rfl) ?_
  refine call_O (vx_runSW ⟨hx, hb, hml, hown, hts⟩ hM1 (vx_cwSW 5 hts (gi_S ml_L_109 st_L_setAnswer it_L cd_L_setAnswer) rfl rfl rfl (by decide +kernel) ⟨Nat.le_of_ble_eq_true rfl, Nat.le_of_ble_eq_true rfl⟩) (pX_S hK hKX ((hZ.kept hS.2.1).narrow hAo) ⟨hc, hou⟩) rfl rfl hl.1 rfl (lv_room (Nat.le_of_ble_eq_true rfl)) dL_law_360 ⟨hr1, hr2⟩) hAo hS (fun H1 locs k1 k2 hc v hv hvk hS => ?_)
  have hrf := RPa_on _ _ hrf k1 (fun q hq h9 => k2 q hq (fun h8 => h8.elim (fun h7 => hAR q h7 h9) (fun h7 => hoR (h7 ▸ h9))))
  refine lv_istore (lv' := [(5, .int (I k)), (0, .ref b), (1, .ref (γ 0)), (2, .ref (ρ 0)), (3, .ref o), (4, .int (I (i : Int)))]) hx hb dL_law_363 hl (by decide) rfl (fun ls hl => ?_)
  refine lv_aload_n hx hb dL_law_365 rfl (lv_lk hl rfl) ?_
  refine L_arg hC hS hl (i := i) rfl rfl 1 rfl (by omega) dL_law_366 dL_law_367 dL_law_369 dL_law_370 dL_law_371 ?_
  refine L_arg hC hS hl (i := i) rfl rfl 2 rfl (by omega) dL_law_372 dL_law_373 dL_law_375 dL_law_376 dL_law_377 ?_
  refine L_arg hC hS hl (i := i) rfl rfl 3 rfl (by omega) dL_law_378 dL_law_379 dL_law_381 dL_law_382 dL_law_383 ?_
  refine call_P (va_runV ⟨hx, hb, hml, hown, hts⟩ hM2 (cwV 3 hts (gi_V ml_L_111 im_X6_setAnswer sl_X6_setAnswer it_X6 cd_X6_setAnswer) rfl rfl rfl (by decide +kernel) ⟨Nat.le_of_ble_eq_true rfl, Nat.le_of_ble_eq_true rfl⟩) (pP_V hK hrf (RPa_0 _ hrf) rfl) rfl rfl hl.1 rfl (lv_room (Nat.le_of_ble_eq_true rfl)) dL_law_384 ⟨hr1, hr2⟩) hA2 hS rfl (fun H2 locs j1 j2 hrf hS => ?_)
  have hc := CP_on _ _ hc j1 (fun q hq h9 => j2 q hq (hAR q h9))
  have hv := hv.kept (j2 o hv.lt hoR)
  refine lv_istore (lv' := [(6, .int (I b9)), (5, .int (I k)), (0, .ref b), (1, .ref (γ 0)), (2, .ref (ρ 0)), (3, .ref o), (4, .int (I (i : Int)))]) hx hb dL_law_387 hl (by decide) rfl (fun ls hl => ?_)
  refine lv_aload_n hx hb dL_law_389 rfl (lv_lk hl rfl) ?_
  refine call_P (A1 := noA) (va_runV ⟨hx, hb, hml, hown, hts⟩ thr_P (cwV 0 hts (gi_V ml_L_102 im_X6_thrown sl_X6_thrown it_X6 cd_X6_thrown) rfl rfl rfl (by decide +kernel) ⟨Nat.le_of_ble_eq_true rfl, Nat.le_of_ble_eq_true rfl⟩) (pP_V hK hrf (RP_0 hrf) rfl) rfl rfl hl.1 rfl (lv_room (Nat.le_of_ble_eq_true rfl)) dL_law_390 ⟨hr1, hr2⟩) (fun _ h9 => h9.elim) hS rfl (fun H3 locs i1 i2 _ hS => ?_)
  have hc := CP_on _ _ hc i1 (fun q hq _ => i2 q hq (fun h9 => h9))
  have hrf := RP_on _ _ hrf i1 (fun q hq _ => i2 q hq (fun h9 => h9))
  have hv := hv.kept (i2 o hv.lt (fun h9 => h9))
  refine lv_iload hx hb dL_law_393 (lv_lk hl rfl) ?_
  refine iv_icmp_eq (tgt := 400) hx hb dL_law_395 (by decide) (by omega) (by omega) (fun _ => ?_) (fun h9 => absurd rfl h9)
  refine lv_iload hx hb dL_law_400 (lv_lk hl rfl) ?_
  refine iv_if_ne (tgt := 417) hx hb dL_law_402 (by decide) (by omega) (fun _ => ?_) (fun e0 => ?_)
  · refine lv_goto (tgt := 1775) hx hb dL_law_417 (by decide) ?_
    exact kk _ _ _ ⟨st', sv', n', N', tx', hi', hLI, hc, ⟨_, hrf⟩, ⟨_, hv⟩, hS⟩ (lv_sub hl [2, 3, 4, 5, 6] rfl)
  · obtain rfl := (hvk e0).trans (hov e0)
    refine lv_aload_n hx hb dL_law_405 rfl (lv_lk hl rfl) ?_
    refine iv_iconst hx hb dL_law_406 ?_
    refine L_out hx hb hK hv dL_law_407 ?_
    refine lv_iload hx hb dL_law_408 (lv_lk hl rfl) ?_
    refine lv_i2l hx hb dL_law_410 rfl ?_
    refine W.lcmp hx hb dL_law_411 ?_
    rw [lg_cmp_self]
    refine iv_if_eq (tgt := 417) hx hb dL_law_412 (by decide) (by omega) (fun _ => ?_) (fun h9 => absurd rfl h9)
    refine lv_goto (tgt := 1775) hx hb dL_law_417 (by decide) ?_
    exact kk _ _ _ ⟨st', sv', n', N', tx', hi', hLI, hc, ⟨_, hrf⟩, ⟨_, hv⟩, hS⟩ (lv_sub hl [2, 3, 4, 5, 6] rfl)
set_option maxHeartbeats 400000 in
set_option maxRecDepth 100000 in
theorem case_setReference {p : Program} {l : Launch} {e : Jvm.Env} {s : State} {m : MethodId} {args : Array Value} {below : List Frame} {meth : Method} {c : Code} {H : Heap} {locs : List Loc} {cells slots : Nat} {Q : State → Prop} {ls : Array Slot} {b L : Nat} {xs : Nat → Int32} {E : Env3} {γ α ρ : Nat → Nat} {o : Nat} {A : Nat → Prop} (hC : LawC p l s m args meth c b L xs E γ α ρ o A) (i : Nat) (hi4 : i + 4 ≤ L) (hl : lv_has ls 9 (lvL b γ ρ o i)) (hD : Dyn s E γ α ρ o A H locs) (hr1 : cells + 1 ≤ room_1.cells) (hr2 : slots + 6 ≤ room_1.slots)
    (kk : ∀ (H1 : Heap) (locs1 : List Loc) (ls1 : Array Slot), Dyn s E γ α ρ o A H1 locs1 → lv_has ls1 9 (lvL b γ ρ o i) → W p l e room_1 s m args below meth c H1 locs1 (cells + 1) (slots + 6) Q (F0 m 1775 ls1 [])) : W p l e room_1 s m args below meth c H locs cells slots Q (F0 m 420 ls []) := by
  obtain ⟨⟨hx, hb, hr, hml, hown, hlocks, hts⟩, ⟨hX, hbl, hL8⟩, ⟨hK, hKX, hZ, hl0⟩, ⟨hA, hA2, ho, hoA, hoR, hAR, hρ⟩⟩ := id hC
  obtain ⟨st, sv, n, N, tx, hi, hLI, hc, hrf, hou, hS⟩ := hD
  have hl : lv_has ls 9 [(0, .ref b), (1, .ref (γ 0)), (2, .ref (ρ 0)), (3, .ref o), (4, .int (I (i : Int)))] := hl
  obtain ⟨k, b9, ov, st', sv', n', N', tx', hi', hM1, hM2, hLI, hov, hk, hB⟩ := op_setReference l hl0 E γ α ρ o A hoA hρ st sv n N tx hi hLI (xs (i + 1)) (xs (i + 2)) (xs (i + 3))
  have hAo : ∀ q, (A q ∨ q = o) → s.heap.size ≤ q := fun q h9 => h9.elim (hA q) (fun e9 => e9 ▸ ho)
  refine lv_aload_n hx hb dL_law_420 rfl (lv_lk hl rfl) ?_
  refine L_arg hC hS hl (i := i) rfl rfl 1 rfl (by omega) dL_law_421 dL_law_422 dL_law_424 dL_law_425 dL_law_426 ?_
  refine L_arg hC hS hl (i := i) rfl rfl 2 rfl (by omega) dL_law_427 dL_law_428 dL_law_430 dL_law_431 dL_law_432 ?_
  refine L_arg hC hS hl (i := i) rfl rfl 3 rfl (by omega) dL_law_433 dL_law_434 dL_law_436 dL_law_437 dL_law_438 ?_
  refine lv_aload_n hx hb dL_law_439 rfl (lv_lk hl rfl) ?_
  refine call_O (vx_runSW ⟨hx, hb, hml, hown, hts⟩ hM1 (vx_cwSW 5 hts (gi_S ml_L_112 st_L_setReference it_L cd_L_setReference) rfl rfl rfl (by decide +kernel) ⟨Nat.le_of_ble_eq_true rfl, Nat.le_of_ble_eq_true rfl⟩) (pX_S hK hKX ((hZ.kept hS.2.1).narrow hAo) ⟨hc, hou⟩) rfl rfl hl.1 rfl (lv_room (Nat.le_of_ble_eq_true rfl)) dL_law_440 ⟨hr1, hr2⟩) hAo hS (fun H1 locs k1 k2 hc v hv hvk hS => ?_)
  have hrf := RPa_on _ _ hrf k1 (fun q hq h9 => k2 q hq (fun h8 => h8.elim (fun h7 => hAR q h7 h9) (fun h7 => hoR (h7 ▸ h9))))
  refine lv_istore (lv' := [(5, .int (I k)), (0, .ref b), (1, .ref (γ 0)), (2, .ref (ρ 0)), (3, .ref o), (4, .int (I (i : Int)))]) hx hb dL_law_443 hl (by decide) rfl (fun ls hl => ?_)
  refine lv_aload_n hx hb dL_law_445 rfl (lv_lk hl rfl) ?_
  refine L_arg hC hS hl (i := i) rfl rfl 1 rfl (by omega) dL_law_446 dL_law_447 dL_law_449 dL_law_450 dL_law_451 ?_
  refine L_arg hC hS hl (i := i) rfl rfl 2 rfl (by omega) dL_law_452 dL_law_453 dL_law_455 dL_law_456 dL_law_457 ?_
  refine L_arg hC hS hl (i := i) rfl rfl 3 rfl (by omega) dL_law_458 dL_law_459 dL_law_461 dL_law_462 dL_law_463 ?_
  refine call_P (va_runV ⟨hx, hb, hml, hown, hts⟩ hM2 (cwV 3 hts (gi_V ml_L_114 im_X6_setReference sl_X6_setReference it_X6 cd_X6_setReference) rfl rfl rfl (by decide +kernel) ⟨Nat.le_of_ble_eq_true rfl, Nat.le_of_ble_eq_true rfl⟩) (pP_V hK hrf (RPa_0 _ hrf) rfl) rfl rfl hl.1 rfl (lv_room (Nat.le_of_ble_eq_true rfl)) dL_law_464 ⟨hr1, hr2⟩) hA2 hS rfl (fun H2 locs j1 j2 hrf hS => ?_)
  have hc := CP_on _ _ hc j1 (fun q hq h9 => j2 q hq (hAR q h9))
  have hv := hv.kept (j2 o hv.lt hoR)
  refine lv_istore (lv' := [(6, .int (I b9)), (5, .int (I k)), (0, .ref b), (1, .ref (γ 0)), (2, .ref (ρ 0)), (3, .ref o), (4, .int (I (i : Int)))]) hx hb dL_law_467 hl (by decide) rfl (fun ls hl => ?_)
  refine lv_aload_n hx hb dL_law_469 rfl (lv_lk hl rfl) ?_
  refine call_P (A1 := noA) (va_runV ⟨hx, hb, hml, hown, hts⟩ thr_P (cwV 0 hts (gi_V ml_L_102 im_X6_thrown sl_X6_thrown it_X6 cd_X6_thrown) rfl rfl rfl (by decide +kernel) ⟨Nat.le_of_ble_eq_true rfl, Nat.le_of_ble_eq_true rfl⟩) (pP_V hK hrf (RP_0 hrf) rfl) rfl rfl hl.1 rfl (lv_room (Nat.le_of_ble_eq_true rfl)) dL_law_470 ⟨hr1, hr2⟩) (fun _ h9 => h9.elim) hS rfl (fun H3 locs i1 i2 _ hS => ?_)
  have hc := CP_on _ _ hc i1 (fun q hq _ => i2 q hq (fun h9 => h9))
  have hrf := RP_on _ _ hrf i1 (fun q hq _ => i2 q hq (fun h9 => h9))
  have hv := hv.kept (i2 o hv.lt (fun h9 => h9))
  refine lv_iload hx hb dL_law_473 (lv_lk hl rfl) ?_
  refine iv_icmp_eq (tgt := 480) hx hb dL_law_475 (by decide) (by omega) (by omega) (fun _ => ?_) (fun h9 => absurd rfl h9)
  refine lv_iload hx hb dL_law_480 (lv_lk hl rfl) ?_
  refine iv_if_ne (tgt := 497) hx hb dL_law_482 (by decide) (by omega) (fun _ => ?_) (fun e0 => ?_)
  · refine lv_goto (tgt := 1775) hx hb dL_law_497 (by decide) ?_
    exact kk _ _ _ ⟨st', sv', n', N', tx', hi', hLI, hc, ⟨_, hrf⟩, ⟨_, hv⟩, hS⟩ (lv_sub hl [2, 3, 4, 5, 6] rfl)
  · obtain rfl := (hvk e0).trans (hov e0)
    refine lv_aload_n hx hb dL_law_485 rfl (lv_lk hl rfl) ?_
    refine iv_iconst hx hb dL_law_486 ?_
    refine L_out hx hb hK hv dL_law_487 ?_
    refine lv_iload hx hb dL_law_488 (lv_lk hl rfl) ?_
    refine lv_i2l hx hb dL_law_490 rfl ?_
    refine W.lcmp hx hb dL_law_491 ?_
    rw [lg_cmp_self]
    refine iv_if_eq (tgt := 497) hx hb dL_law_492 (by decide) (by omega) (fun _ => ?_) (fun h9 => absurd rfl h9)
    refine lv_goto (tgt := 1775) hx hb dL_law_497 (by decide) ?_
    exact kk _ _ _ ⟨st', sv', n', N', tx', hi', hLI, hc, ⟨_, hrf⟩, ⟨_, hv⟩, hS⟩ (lv_sub hl [2, 3, 4, 5, 6] rfl)
set_option maxHeartbeats 400000 in
set_option maxRecDepth 100000 in
theorem case_takeAway {p : Program} {l : Launch} {e : Jvm.Env} {s : State} {m : MethodId} {args : Array Value} {below : List Frame} {meth : Method} {c : Code} {H : Heap} {locs : List Loc} {cells slots : Nat} {Q : State → Prop} {ls : Array Slot} {b L : Nat} {xs : Nat → Int32} {E : Env3} {γ α ρ : Nat → Nat} {o : Nat} {A : Nat → Prop} (hC : LawC p l s m args meth c b L xs E γ α ρ o A) (i : Nat) (hi4 : i + 4 ≤ L) (hl : lv_has ls 9 (lvL b γ ρ o i)) (hD : Dyn s E γ α ρ o A H locs) (hr1 : cells + 1 ≤ room_1.cells) (hr2 : slots + 6 ≤ room_1.slots)
    (kk : ∀ (H1 : Heap) (locs1 : List Loc) (ls1 : Array Slot), Dyn s E γ α ρ o A H1 locs1 → lv_has ls1 9 (lvL b γ ρ o i) → W p l e room_1 s m args below meth c H1 locs1 (cells + 1) (slots + 6) Q (F0 m 1775 ls1 [])) : W p l e room_1 s m args below meth c H locs cells slots Q (F0 m 500 ls []) := by
  obtain ⟨⟨hx, hb, hr, hml, hown, hlocks, hts⟩, ⟨hX, hbl, hL8⟩, ⟨hK, hKX, hZ, hl0⟩, ⟨hA, hA2, ho, hoA, hoR, hAR, hρ⟩⟩ := id hC
  obtain ⟨st, sv, n, N, tx, hi, hLI, hc, hrf, hou, hS⟩ := hD
  have hl : lv_has ls 9 [(0, .ref b), (1, .ref (γ 0)), (2, .ref (ρ 0)), (3, .ref o), (4, .int (I (i : Int)))] := hl
  obtain ⟨k, b9, ov, st', sv', n', N', tx', hi', hM1, hM2, hLI, hov, hk, hB⟩ := op_takeAway l hl0 E γ α ρ o A hoA hρ st sv n N tx hi hLI (xs (i + 1))
  have hAo : ∀ q, (A q ∨ q = o) → s.heap.size ≤ q := fun q h9 => h9.elim (hA q) (fun e9 => e9 ▸ ho)
  refine lv_aload_n hx hb dL_law_500 rfl (lv_lk hl rfl) ?_
  refine L_arg hC hS hl (i := i) rfl rfl 1 rfl (by omega) dL_law_501 dL_law_502 dL_law_504 dL_law_505 dL_law_506 ?_
  refine lv_aload_n hx hb dL_law_507 rfl (lv_lk hl rfl) ?_
  refine call_O (vx_runSW ⟨hx, hb, hml, hown, hts⟩ hM1 (vx_cwSW 3 hts (gi_S ml_L_115 st_L_takeAway it_L cd_L_takeAway) rfl rfl rfl (by decide +kernel) ⟨Nat.le_of_ble_eq_true rfl, Nat.le_of_ble_eq_true rfl⟩) (pX_S hK hKX ((hZ.kept hS.2.1).narrow hAo) ⟨hc, hou⟩) rfl rfl hl.1 rfl (lv_room (Nat.le_of_ble_eq_true rfl)) dL_law_508 ⟨hr1, hr2⟩) hAo hS (fun H1 locs k1 k2 hc v hv hvk hS => ?_)
  have hrf := RPa_on _ _ hrf k1 (fun q hq h9 => k2 q hq (fun h8 => h8.elim (fun h7 => hAR q h7 h9) (fun h7 => hoR (h7 ▸ h9))))
  refine lv_istore (lv' := [(5, .int (I k)), (0, .ref b), (1, .ref (γ 0)), (2, .ref (ρ 0)), (3, .ref o), (4, .int (I (i : Int)))]) hx hb dL_law_511 hl (by decide) rfl (fun ls hl => ?_)
  refine lv_aload_n hx hb dL_law_513 rfl (lv_lk hl rfl) ?_
  refine L_arg hC hS hl (i := i) rfl rfl 1 rfl (by omega) dL_law_514 dL_law_515 dL_law_517 dL_law_518 dL_law_519 ?_
  refine call_P (va_runV ⟨hx, hb, hml, hown, hts⟩ hM2 (cwV 1 hts (gi_V ml_L_118 im_X6_takeAway sl_X6_takeAway it_X6 cd_X6_takeAway) rfl rfl rfl (by decide +kernel) ⟨Nat.le_of_ble_eq_true rfl, Nat.le_of_ble_eq_true rfl⟩) (pP_V hK hrf (RPa_0 _ hrf) rfl) rfl rfl hl.1 rfl (lv_room (Nat.le_of_ble_eq_true rfl)) dL_law_520 ⟨hr1, hr2⟩) hA2 hS rfl (fun H2 locs j1 j2 hrf hS => ?_)
  have hc := CP_on _ _ hc j1 (fun q hq h9 => j2 q hq (hAR q h9))
  have hv := hv.kept (j2 o hv.lt hoR)
  refine lv_istore (lv' := [(6, .int (I b9)), (5, .int (I k)), (0, .ref b), (1, .ref (γ 0)), (2, .ref (ρ 0)), (3, .ref o), (4, .int (I (i : Int)))]) hx hb dL_law_523 hl (by decide) rfl (fun ls hl => ?_)
  refine lv_aload_n hx hb dL_law_525 rfl (lv_lk hl rfl) ?_
  refine call_P (A1 := noA) (va_runV ⟨hx, hb, hml, hown, hts⟩ thr_P (cwV 0 hts (gi_V ml_L_102 im_X6_thrown sl_X6_thrown it_X6 cd_X6_thrown) rfl rfl rfl (by decide +kernel) ⟨Nat.le_of_ble_eq_true rfl, Nat.le_of_ble_eq_true rfl⟩) (pP_V hK hrf (RP_0 hrf) rfl) rfl rfl hl.1 rfl (lv_room (Nat.le_of_ble_eq_true rfl)) dL_law_526 ⟨hr1, hr2⟩) (fun _ h9 => h9.elim) hS rfl (fun H3 locs i1 i2 _ hS => ?_)
  have hc := CP_on _ _ hc i1 (fun q hq _ => i2 q hq (fun h9 => h9))
  have hrf := RP_on _ _ hrf i1 (fun q hq _ => i2 q hq (fun h9 => h9))
  have hv := hv.kept (i2 o hv.lt (fun h9 => h9))
  refine lv_iload hx hb dL_law_529 (lv_lk hl rfl) ?_
  refine iv_icmp_eq (tgt := 536) hx hb dL_law_531 (by decide) (by omega) (by omega) (fun _ => ?_) (fun h9 => absurd rfl h9)
  refine lv_iload hx hb dL_law_536 (lv_lk hl rfl) ?_
  refine iv_if_ne (tgt := 553) hx hb dL_law_538 (by decide) (by omega) (fun _ => ?_) (fun e0 => ?_)
  · refine lv_goto (tgt := 1775) hx hb dL_law_553 (by decide) ?_
    exact kk _ _ _ ⟨st', sv', n', N', tx', hi', hLI, hc, ⟨_, hrf⟩, ⟨_, hv⟩, hS⟩ (lv_sub hl [2, 3, 4, 5, 6] rfl)
  · obtain rfl := (hvk e0).trans (hov e0)
    refine lv_aload_n hx hb dL_law_541 rfl (lv_lk hl rfl) ?_
    refine iv_iconst hx hb dL_law_542 ?_
    refine L_out hx hb hK hv dL_law_543 ?_
    refine lv_iload hx hb dL_law_544 (lv_lk hl rfl) ?_
    refine lv_i2l hx hb dL_law_546 rfl ?_
    refine W.lcmp hx hb dL_law_547 ?_
    rw [lg_cmp_self]
    refine iv_if_eq (tgt := 553) hx hb dL_law_548 (by decide) (by omega) (fun _ => ?_) (fun h9 => absurd rfl h9)
    refine lv_goto (tgt := 1775) hx hb dL_law_553 (by decide) ?_
    exact kk _ _ _ ⟨st', sv', n', N', tx', hi', hLI, hc, ⟨_, hrf⟩, ⟨_, hv⟩, hS⟩ (lv_sub hl [2, 3, 4, 5, 6] rfl)
set_option maxHeartbeats 400000 in
set_option maxRecDepth 100000 in
theorem case_solve {p : Program} {l : Launch} {e : Jvm.Env} {s : State} {m : MethodId} {args : Array Value} {below : List Frame} {meth : Method} {c : Code} {H : Heap} {locs : List Loc} {cells slots : Nat} {Q : State → Prop} {ls : Array Slot} {b L : Nat} {xs : Nat → Int32} {E : Env3} {γ α ρ : Nat → Nat} {o : Nat} {A : Nat → Prop} (hC : LawC p l s m args meth c b L xs E γ α ρ o A) (i : Nat) (hi4 : i + 4 ≤ L) (hl : lv_has ls 9 (lvL b γ ρ o i)) (hD : Dyn s E γ α ρ o A H locs) (hr1 : cells + 1 ≤ room_1.cells) (hr2 : slots + 6 ≤ room_1.slots)
    (kk : ∀ (H1 : Heap) (locs1 : List Loc) (ls1 : Array Slot), Dyn s E γ α ρ o A H1 locs1 → lv_has ls1 9 (lvL b γ ρ o i) → W p l e room_1 s m args below meth c H1 locs1 (cells + 1) (slots + 6) Q (F0 m 1775 ls1 [])) : W p l e room_1 s m args below meth c H locs cells slots Q (F0 m 556 ls []) := by
  obtain ⟨⟨hx, hb, hr, hml, hown, hlocks, hts⟩, ⟨hX, hbl, hL8⟩, ⟨hK, hKX, hZ, hl0⟩, ⟨hA, hA2, ho, hoA, hoR, hAR, hρ⟩⟩ := id hC
  obtain ⟨st, sv, n, N, tx, hi, hLI, hc, hrf, hou, hS⟩ := hD
  have hl : lv_has ls 9 [(0, .ref b), (1, .ref (γ 0)), (2, .ref (ρ 0)), (3, .ref o), (4, .int (I (i : Int)))] := hl
  obtain ⟨k, b9, ov, st', sv', n', N', tx', hi', hM1, hM2, hLI, hov, hk, hB⟩ := op_solve l hl0 E γ α ρ o A hoA hρ st sv n N tx hi hLI (xs (i + 1))
  have hAo : ∀ q, (A q ∨ q = o) → s.heap.size ≤ q := fun q h9 => h9.elim (hA q) (fun e9 => e9 ▸ ho)
  refine lv_aload_n hx hb dL_law_556 rfl (lv_lk hl rfl) ?_
  refine L_arg hC hS hl (i := i) rfl rfl 1 rfl (by omega) dL_law_557 dL_law_558 dL_law_560 dL_law_561 dL_law_562 ?_
  refine lv_aload_n hx hb dL_law_563 rfl (lv_lk hl rfl) ?_
  refine call_O (vx_runSW ⟨hx, hb, hml, hown, hts⟩ hM1 (vx_cwSW 3 hts (gi_S ml_L_119 st_L_solve it_L cd_L_solve) rfl rfl rfl (by decide +kernel) ⟨Nat.le_of_ble_eq_true rfl, Nat.le_of_ble_eq_true rfl⟩) (pX_S hK hKX ((hZ.kept hS.2.1).narrow hAo) ⟨hc, hou⟩) rfl rfl hl.1 rfl (lv_room (Nat.le_of_ble_eq_true rfl)) dL_law_564 ⟨hr1, hr2⟩) hAo hS (fun H1 locs k1 k2 hc v hv hvk hS => ?_)
  have hrf := RPa_on _ _ hrf k1 (fun q hq h9 => k2 q hq (fun h8 => h8.elim (fun h7 => hAR q h7 h9) (fun h7 => hoR (h7 ▸ h9))))
  refine lv_istore (lv' := [(5, .int (I k)), (0, .ref b), (1, .ref (γ 0)), (2, .ref (ρ 0)), (3, .ref o), (4, .int (I (i : Int)))]) hx hb dL_law_567 hl (by decide) rfl (fun ls hl => ?_)
  refine lv_aload_n hx hb dL_law_569 rfl (lv_lk hl rfl) ?_
  refine L_arg hC hS hl (i := i) rfl rfl 1 rfl (by omega) dL_law_570 dL_law_571 dL_law_573 dL_law_574 dL_law_575 ?_
  refine call_P (va_runV ⟨hx, hb, hml, hown, hts⟩ hM2 (cwV 1 hts (gi_V ml_L_121 im_X6_solve sl_X6_solve it_X6 cd_X6_solve) rfl rfl rfl (by decide +kernel) ⟨Nat.le_of_ble_eq_true rfl, Nat.le_of_ble_eq_true rfl⟩) (pP_V hK hrf (RPa_0 _ hrf) rfl) rfl rfl hl.1 rfl (lv_room (Nat.le_of_ble_eq_true rfl)) dL_law_576 ⟨hr1, hr2⟩) hA2 hS rfl (fun H2 locs j1 j2 hrf hS => ?_)
  have hc := CP_on _ _ hc j1 (fun q hq h9 => j2 q hq (hAR q h9))
  have hv := hv.kept (j2 o hv.lt hoR)
  refine lv_istore (lv' := [(6, .int (I b9)), (5, .int (I k)), (0, .ref b), (1, .ref (γ 0)), (2, .ref (ρ 0)), (3, .ref o), (4, .int (I (i : Int)))]) hx hb dL_law_579 hl (by decide) rfl (fun ls hl => ?_)
  refine lv_aload_n hx hb dL_law_581 rfl (lv_lk hl rfl) ?_
  refine call_P (A1 := noA) (va_runV ⟨hx, hb, hml, hown, hts⟩ thr_P (cwV 0 hts (gi_V ml_L_102 im_X6_thrown sl_X6_thrown it_X6 cd_X6_thrown) rfl rfl rfl (by decide +kernel) ⟨Nat.le_of_ble_eq_true rfl, Nat.le_of_ble_eq_true rfl⟩) (pP_V hK hrf (RP_0 hrf) rfl) rfl rfl hl.1 rfl (lv_room (Nat.le_of_ble_eq_true rfl)) dL_law_582 ⟨hr1, hr2⟩) (fun _ h9 => h9.elim) hS rfl (fun H3 locs i1 i2 _ hS => ?_)
  have hc := CP_on _ _ hc i1 (fun q hq _ => i2 q hq (fun h9 => h9))
  have hrf := RP_on _ _ hrf i1 (fun q hq _ => i2 q hq (fun h9 => h9))
  have hv := hv.kept (i2 o hv.lt (fun h9 => h9))
  refine lv_iload hx hb dL_law_585 (lv_lk hl rfl) ?_
  refine iv_icmp_eq (tgt := 592) hx hb dL_law_587 (by decide) (by omega) (by omega) (fun _ => ?_) (fun h9 => absurd rfl h9)
  refine lv_iload hx hb dL_law_592 (lv_lk hl rfl) ?_
  refine iv_if_ne (tgt := 609) hx hb dL_law_594 (by decide) (by omega) (fun _ => ?_) (fun e0 => ?_)
  · refine lv_goto (tgt := 1775) hx hb dL_law_609 (by decide) ?_
    exact kk _ _ _ ⟨st', sv', n', N', tx', hi', hLI, hc, ⟨_, hrf⟩, ⟨_, hv⟩, hS⟩ (lv_sub hl [2, 3, 4, 5, 6] rfl)
  · obtain rfl := (hvk e0).trans (hov e0)
    refine lv_aload_n hx hb dL_law_597 rfl (lv_lk hl rfl) ?_
    refine iv_iconst hx hb dL_law_598 ?_
    refine L_out hx hb hK hv dL_law_599 ?_
    refine lv_iload hx hb dL_law_600 (lv_lk hl rfl) ?_
    refine lv_i2l hx hb dL_law_602 rfl ?_
    refine W.lcmp hx hb dL_law_603 ?_
    rw [lg_cmp_self]
    refine iv_if_eq (tgt := 609) hx hb dL_law_604 (by decide) (by omega) (fun _ => ?_) (fun h9 => absurd rfl h9)
    refine lv_goto (tgt := 1775) hx hb dL_law_609 (by decide) ?_
    exact kk _ _ _ ⟨st', sv', n', N', tx', hi', hLI, hc, ⟨_, hrf⟩, ⟨_, hv⟩, hS⟩ (lv_sub hl [2, 3, 4, 5, 6] rfl)
set_option maxHeartbeats 400000 in
set_option maxRecDepth 100000 in
theorem case_forget {p : Program} {l : Launch} {e : Jvm.Env} {s : State} {m : MethodId} {args : Array Value} {below : List Frame} {meth : Method} {c : Code} {H : Heap} {locs : List Loc} {cells slots : Nat} {Q : State → Prop} {ls : Array Slot} {b L : Nat} {xs : Nat → Int32} {E : Env3} {γ α ρ : Nat → Nat} {o : Nat} {A : Nat → Prop} (hC : LawC p l s m args meth c b L xs E γ α ρ o A) (i : Nat) (hi4 : i + 4 ≤ L) (hl : lv_has ls 9 (lvL b γ ρ o i)) (hD : Dyn s E γ α ρ o A H locs) (hr1 : cells + 1 ≤ room_1.cells) (hr2 : slots + 6 ≤ room_1.slots)
    (kk : ∀ (H1 : Heap) (locs1 : List Loc) (ls1 : Array Slot), Dyn s E γ α ρ o A H1 locs1 → lv_has ls1 9 (lvL b γ ρ o i) → W p l e room_1 s m args below meth c H1 locs1 (cells + 1) (slots + 6) Q (F0 m 1775 ls1 [])) : W p l e room_1 s m args below meth c H locs cells slots Q (F0 m 612 ls []) := by
  obtain ⟨⟨hx, hb, hr, hml, hown, hlocks, hts⟩, ⟨hX, hbl, hL8⟩, ⟨hK, hKX, hZ, hl0⟩, ⟨hA, hA2, ho, hoA, hoR, hAR, hρ⟩⟩ := id hC
  obtain ⟨st, sv, n, N, tx, hi, hLI, hc, hrf, hou, hS⟩ := hD
  have hl : lv_has ls 9 [(0, .ref b), (1, .ref (γ 0)), (2, .ref (ρ 0)), (3, .ref o), (4, .int (I (i : Int)))] := hl
  obtain ⟨k, b9, ov, st', sv', n', N', tx', hi', hM1, hM2, hLI, hov, hk, hB⟩ := op_forget l hl0 E γ α ρ o A hoA hρ st sv n N tx hi hLI (xs (i + 1))
  have hAo : ∀ q, (A q ∨ q = o) → s.heap.size ≤ q := fun q h9 => h9.elim (hA q) (fun e9 => e9 ▸ ho)
  refine lv_aload_n hx hb dL_law_612 rfl (lv_lk hl rfl) ?_
  refine L_arg hC hS hl (i := i) rfl rfl 1 rfl (by omega) dL_law_613 dL_law_614 dL_law_616 dL_law_617 dL_law_618 ?_
  refine lv_aload_n hx hb dL_law_619 rfl (lv_lk hl rfl) ?_
  refine call_O (vx_runSW ⟨hx, hb, hml, hown, hts⟩ hM1 (vx_cwSW 3 hts (gi_S ml_L_122 st_L_forget it_L cd_L_forget) rfl rfl rfl (by decide +kernel) ⟨Nat.le_of_ble_eq_true rfl, Nat.le_of_ble_eq_true rfl⟩) (pX_S hK hKX ((hZ.kept hS.2.1).narrow hAo) ⟨hc, hou⟩) rfl rfl hl.1 rfl (lv_room (Nat.le_of_ble_eq_true rfl)) dL_law_620 ⟨hr1, hr2⟩) hAo hS (fun H1 locs k1 k2 hc v hv hvk hS => ?_)
  have hrf := RPa_on _ _ hrf k1 (fun q hq h9 => k2 q hq (fun h8 => h8.elim (fun h7 => hAR q h7 h9) (fun h7 => hoR (h7 ▸ h9))))
  refine lv_istore (lv' := [(5, .int (I k)), (0, .ref b), (1, .ref (γ 0)), (2, .ref (ρ 0)), (3, .ref o), (4, .int (I (i : Int)))]) hx hb dL_law_623 hl (by decide) rfl (fun ls hl => ?_)
  refine lv_aload_n hx hb dL_law_625 rfl (lv_lk hl rfl) ?_
  refine L_arg hC hS hl (i := i) rfl rfl 1 rfl (by omega) dL_law_626 dL_law_627 dL_law_629 dL_law_630 dL_law_631 ?_
  refine call_P (va_runV ⟨hx, hb, hml, hown, hts⟩ hM2 (cwV 1 hts (gi_V ml_L_124 im_X6_forget sl_X6_forget it_X6 cd_X6_forget) rfl rfl rfl (by decide +kernel) ⟨Nat.le_of_ble_eq_true rfl, Nat.le_of_ble_eq_true rfl⟩) (pP_V hK hrf (RPa_0 _ hrf) rfl) rfl rfl hl.1 rfl (lv_room (Nat.le_of_ble_eq_true rfl)) dL_law_632 ⟨hr1, hr2⟩) hA2 hS rfl (fun H2 locs j1 j2 hrf hS => ?_)
  have hc := CP_on _ _ hc j1 (fun q hq h9 => j2 q hq (hAR q h9))
  have hv := hv.kept (j2 o hv.lt hoR)
  refine lv_istore (lv' := [(6, .int (I b9)), (5, .int (I k)), (0, .ref b), (1, .ref (γ 0)), (2, .ref (ρ 0)), (3, .ref o), (4, .int (I (i : Int)))]) hx hb dL_law_635 hl (by decide) rfl (fun ls hl => ?_)
  refine lv_aload_n hx hb dL_law_637 rfl (lv_lk hl rfl) ?_
  refine call_P (A1 := noA) (va_runV ⟨hx, hb, hml, hown, hts⟩ thr_P (cwV 0 hts (gi_V ml_L_102 im_X6_thrown sl_X6_thrown it_X6 cd_X6_thrown) rfl rfl rfl (by decide +kernel) ⟨Nat.le_of_ble_eq_true rfl, Nat.le_of_ble_eq_true rfl⟩) (pP_V hK hrf (RP_0 hrf) rfl) rfl rfl hl.1 rfl (lv_room (Nat.le_of_ble_eq_true rfl)) dL_law_638 ⟨hr1, hr2⟩) (fun _ h9 => h9.elim) hS rfl (fun H3 locs i1 i2 _ hS => ?_)
  have hc := CP_on _ _ hc i1 (fun q hq _ => i2 q hq (fun h9 => h9))
  have hrf := RP_on _ _ hrf i1 (fun q hq _ => i2 q hq (fun h9 => h9))
  have hv := hv.kept (i2 o hv.lt (fun h9 => h9))
  refine lv_iload hx hb dL_law_641 (lv_lk hl rfl) ?_
  refine iv_icmp_eq (tgt := 648) hx hb dL_law_643 (by decide) (by omega) (by omega) (fun _ => ?_) (fun h9 => absurd rfl h9)
  refine lv_iload hx hb dL_law_648 (lv_lk hl rfl) ?_
  refine iv_if_ne (tgt := 665) hx hb dL_law_650 (by decide) (by omega) (fun _ => ?_) (fun e0 => ?_)
  · refine lv_goto (tgt := 1775) hx hb dL_law_665 (by decide) ?_
    exact kk _ _ _ ⟨st', sv', n', N', tx', hi', hLI, hc, ⟨_, hrf⟩, ⟨_, hv⟩, hS⟩ (lv_sub hl [2, 3, 4, 5, 6] rfl)
  · obtain rfl := (hvk e0).trans (hov e0)
    refine lv_aload_n hx hb dL_law_653 rfl (lv_lk hl rfl) ?_
    refine iv_iconst hx hb dL_law_654 ?_
    refine L_out hx hb hK hv dL_law_655 ?_
    refine lv_iload hx hb dL_law_656 (lv_lk hl rfl) ?_
    refine lv_i2l hx hb dL_law_658 rfl ?_
    refine W.lcmp hx hb dL_law_659 ?_
    rw [lg_cmp_self]
    refine iv_if_eq (tgt := 665) hx hb dL_law_660 (by decide) (by omega) (fun _ => ?_) (fun h9 => absurd rfl h9)
    refine lv_goto (tgt := 1775) hx hb dL_law_665 (by decide) ?_
    exact kk _ _ _ ⟨st', sv', n', N', tx', hi', hLI, hc, ⟨_, hrf⟩, ⟨_, hv⟩, hS⟩ (lv_sub hl [2, 3, 4, 5, 6] rfl)
set_option maxHeartbeats 400000 in
set_option maxRecDepth 100000 in
theorem case_pass {p : Program} {l : Launch} {e : Jvm.Env} {s : State} {m : MethodId} {args : Array Value} {below : List Frame} {meth : Method} {c : Code} {H : Heap} {locs : List Loc} {cells slots : Nat} {Q : State → Prop} {ls : Array Slot} {b L : Nat} {xs : Nat → Int32} {E : Env3} {γ α ρ : Nat → Nat} {o : Nat} {A : Nat → Prop} (hC : LawC p l s m args meth c b L xs E γ α ρ o A) (i : Nat) (hi4 : i + 4 ≤ L) (hl : lv_has ls 9 (lvL b γ ρ o i)) (hD : Dyn s E γ α ρ o A H locs) (hr1 : cells + 1 ≤ room_1.cells) (hr2 : slots + 6 ≤ room_1.slots)
    (kk : ∀ (H1 : Heap) (locs1 : List Loc) (ls1 : Array Slot), Dyn s E γ α ρ o A H1 locs1 → lv_has ls1 9 (lvL b γ ρ o i) → W p l e room_1 s m args below meth c H1 locs1 (cells + 1) (slots + 6) Q (F0 m 1775 ls1 [])) : W p l e room_1 s m args below meth c H locs cells slots Q (F0 m 668 ls []) := by
  obtain ⟨⟨hx, hb, hr, hml, hown, hlocks, hts⟩, ⟨hX, hbl, hL8⟩, ⟨hK, hKX, hZ, hl0⟩, ⟨hA, hA2, ho, hoA, hoR, hAR, hρ⟩⟩ := id hC
  obtain ⟨st, sv, n, N, tx, hi, hLI, hc, hrf, hou, hS⟩ := hD
  have hl : lv_has ls 9 [(0, .ref b), (1, .ref (γ 0)), (2, .ref (ρ 0)), (3, .ref o), (4, .int (I (i : Int)))] := hl
  obtain ⟨k, b9, ov, st', sv', n', N', tx', hi', hM1, hM2, hLI, hov, hk, hB⟩ := op_pass l hl0 E γ α ρ o A hoA hρ st sv n N tx hi hLI (xs (i + 1))
  have hAo : ∀ q, (A q ∨ q = o) → s.heap.size ≤ q := fun q h9 => h9.elim (hA q) (fun e9 => e9 ▸ ho)
  refine lv_aload_n hx hb dL_law_668 rfl (lv_lk hl rfl) ?_
  refine L_arg hC hS hl (i := i) rfl rfl 1 rfl (by omega) dL_law_669 dL_law_670 dL_law_672 dL_law_673 dL_law_674 ?_
  refine lv_aload_n hx hb dL_law_675 rfl (lv_lk hl rfl) ?_
  refine call_O (vx_runSW ⟨hx, hb, hml, hown, hts⟩ hM1 (vx_cwSW 3 hts (gi_S ml_L_125 st_L_pass it_L cd_L_pass) rfl rfl rfl (by decide +kernel) ⟨Nat.le_of_ble_eq_true rfl, Nat.le_of_ble_eq_true rfl⟩) (pX_S hK hKX ((hZ.kept hS.2.1).narrow hAo) ⟨hc, hou⟩) rfl rfl hl.1 rfl (lv_room (Nat.le_of_ble_eq_true rfl)) dL_law_676 ⟨hr1, hr2⟩) hAo hS (fun H1 locs k1 k2 hc v hv hvk hS => ?_)
  have hrf := RPa_on _ _ hrf k1 (fun q hq h9 => k2 q hq (fun h8 => h8.elim (fun h7 => hAR q h7 h9) (fun h7 => hoR (h7 ▸ h9))))
  refine lv_istore (lv' := [(5, .int (I k)), (0, .ref b), (1, .ref (γ 0)), (2, .ref (ρ 0)), (3, .ref o), (4, .int (I (i : Int)))]) hx hb dL_law_679 hl (by decide) rfl (fun ls hl => ?_)
  refine lv_aload_n hx hb dL_law_681 rfl (lv_lk hl rfl) ?_
  refine L_arg hC hS hl (i := i) rfl rfl 1 rfl (by omega) dL_law_682 dL_law_683 dL_law_685 dL_law_686 dL_law_687 ?_
  refine call_P (va_runV ⟨hx, hb, hml, hown, hts⟩ hM2 (cwV 1 hts (gi_V ml_L_127 im_X6_pass sl_X6_pass it_X6 cd_X6_pass) rfl rfl rfl (by decide +kernel) ⟨Nat.le_of_ble_eq_true rfl, Nat.le_of_ble_eq_true rfl⟩) (pP_V hK hrf (RPa_0 _ hrf) rfl) rfl rfl hl.1 rfl (lv_room (Nat.le_of_ble_eq_true rfl)) dL_law_688 ⟨hr1, hr2⟩) hA2 hS rfl (fun H2 locs j1 j2 hrf hS => ?_)
  have hc := CP_on _ _ hc j1 (fun q hq h9 => j2 q hq (hAR q h9))
  have hv := hv.kept (j2 o hv.lt hoR)
  refine lv_istore (lv' := [(6, .int (I b9)), (5, .int (I k)), (0, .ref b), (1, .ref (γ 0)), (2, .ref (ρ 0)), (3, .ref o), (4, .int (I (i : Int)))]) hx hb dL_law_691 hl (by decide) rfl (fun ls hl => ?_)
  refine lv_aload_n hx hb dL_law_693 rfl (lv_lk hl rfl) ?_
  refine call_P (A1 := noA) (va_runV ⟨hx, hb, hml, hown, hts⟩ thr_P (cwV 0 hts (gi_V ml_L_102 im_X6_thrown sl_X6_thrown it_X6 cd_X6_thrown) rfl rfl rfl (by decide +kernel) ⟨Nat.le_of_ble_eq_true rfl, Nat.le_of_ble_eq_true rfl⟩) (pP_V hK hrf (RP_0 hrf) rfl) rfl rfl hl.1 rfl (lv_room (Nat.le_of_ble_eq_true rfl)) dL_law_694 ⟨hr1, hr2⟩) (fun _ h9 => h9.elim) hS rfl (fun H3 locs i1 i2 _ hS => ?_)
  have hc := CP_on _ _ hc i1 (fun q hq _ => i2 q hq (fun h9 => h9))
  have hrf := RP_on _ _ hrf i1 (fun q hq _ => i2 q hq (fun h9 => h9))
  have hv := hv.kept (i2 o hv.lt (fun h9 => h9))
  refine lv_iload hx hb dL_law_697 (lv_lk hl rfl) ?_
  refine iv_icmp_eq (tgt := 704) hx hb dL_law_699 (by decide) (by omega) (by omega) (fun _ => ?_) (fun h9 => absurd rfl h9)
  refine lv_iload hx hb dL_law_704 (lv_lk hl rfl) ?_
  refine iv_if_ne (tgt := 721) hx hb dL_law_706 (by decide) (by omega) (fun _ => ?_) (fun e0 => ?_)
  · refine lv_goto (tgt := 1775) hx hb dL_law_721 (by decide) ?_
    exact kk _ _ _ ⟨st', sv', n', N', tx', hi', hLI, hc, ⟨_, hrf⟩, ⟨_, hv⟩, hS⟩ (lv_sub hl [2, 3, 4, 5, 6] rfl)
  · obtain rfl := (hvk e0).trans (hov e0)
    refine lv_aload_n hx hb dL_law_709 rfl (lv_lk hl rfl) ?_
    refine iv_iconst hx hb dL_law_710 ?_
    refine L_out hx hb hK hv dL_law_711 ?_
    refine lv_iload hx hb dL_law_712 (lv_lk hl rfl) ?_
    refine lv_i2l hx hb dL_law_714 rfl ?_
    refine W.lcmp hx hb dL_law_715 ?_
    rw [lg_cmp_self]
    refine iv_if_eq (tgt := 721) hx hb dL_law_716 (by decide) (by omega) (fun _ => ?_) (fun h9 => absurd rfl h9)
    refine lv_goto (tgt := 1775) hx hb dL_law_721 (by decide) ?_
    exact kk _ _ _ ⟨st', sv', n', N', tx', hi', hLI, hc, ⟨_, hrf⟩, ⟨_, hv⟩, hS⟩ (lv_sub hl [2, 3, 4, 5, 6] rfl)
set_option maxHeartbeats 400000 in
set_option maxRecDepth 100000 in
theorem case_parentOf {p : Program} {l : Launch} {e : Jvm.Env} {s : State} {m : MethodId} {args : Array Value} {below : List Frame} {meth : Method} {c : Code} {H : Heap} {locs : List Loc} {cells slots : Nat} {Q : State → Prop} {ls : Array Slot} {b L : Nat} {xs : Nat → Int32} {E : Env3} {γ α ρ : Nat → Nat} {o : Nat} {A : Nat → Prop} (hC : LawC p l s m args meth c b L xs E γ α ρ o A) (i : Nat) (hi4 : i + 4 ≤ L) (hl : lv_has ls 9 (lvL b γ ρ o i)) (hD : Dyn s E γ α ρ o A H locs) (hr1 : cells + 1 ≤ room_1.cells) (hr2 : slots + 6 ≤ room_1.slots)
    (kk : ∀ (H1 : Heap) (locs1 : List Loc) (ls1 : Array Slot), Dyn s E γ α ρ o A H1 locs1 → lv_has ls1 9 (lvL b γ ρ o i) → W p l e room_1 s m args below meth c H1 locs1 (cells + 1) (slots + 6) Q (F0 m 1775 ls1 [])) : W p l e room_1 s m args below meth c H locs cells slots Q (F0 m 737 ls []) := by
  obtain ⟨⟨hx, hb, hr, hml, hown, hlocks, hts⟩, ⟨hX, hbl, hL8⟩, ⟨hK, hKX, hZ, hl0⟩, ⟨hA, hA2, ho, hoA, hoR, hAR, hρ⟩⟩ := id hC
  obtain ⟨st, sv, n, N, tx, hi, hLI, hc, hrf, hou, hS⟩ := hD
  have hl : lv_has ls 9 [(0, .ref b), (1, .ref (γ 0)), (2, .ref (ρ 0)), (3, .ref o), (4, .int (I (i : Int)))] := hl
  obtain ⟨k, b9, ov, st', sv', n', N', tx', hi', hM1, hM2, hLI, hov, hk, hB⟩ := op_parentOf l hl0 E γ α ρ o A hoA hρ st sv n N tx hi hLI (xs (i + 1))
  have hAo : ∀ q, (A q ∨ q = o) → s.heap.size ≤ q := fun q h9 => h9.elim (hA q) (fun e9 => e9 ▸ ho)
  refine lv_aload_n hx hb dL_law_737 rfl (lv_lk hl rfl) ?_
  refine L_arg hC hS hl (i := i) rfl rfl 1 rfl (by omega) dL_law_738 dL_law_739 dL_law_741 dL_law_742 dL_law_743 ?_
  refine lv_aload_n hx hb dL_law_744 rfl (lv_lk hl rfl) ?_
  refine call_O (vx_runSW ⟨hx, hb, hml, hown, hts⟩ hM1 (vx_cwSW 3 hts (gi_S ml_L_132 st_L_parentOf it_L cd_L_parentOf) rfl rfl rfl (by decide +kernel) ⟨Nat.le_of_ble_eq_true rfl, Nat.le_of_ble_eq_true rfl⟩) (pX_S hK hKX ((hZ.kept hS.2.1).narrow hAo) ⟨hc, hou⟩) rfl rfl hl.1 rfl (lv_room (Nat.le_of_ble_eq_true rfl)) dL_law_745 ⟨hr1, hr2⟩) hAo hS (fun H1 locs k1 k2 hc v hv hvk hS => ?_)
  have hrf := RPa_on _ _ hrf k1 (fun q hq h9 => k2 q hq (fun h8 => h8.elim (fun h7 => hAR q h7 h9) (fun h7 => hoR (h7 ▸ h9))))
  refine lv_istore (lv' := [(5, .int (I k)), (0, .ref b), (1, .ref (γ 0)), (2, .ref (ρ 0)), (3, .ref o), (4, .int (I (i : Int)))]) hx hb dL_law_748 hl (by decide) rfl (fun ls hl => ?_)
  refine lv_aload_n hx hb dL_law_750 rfl (lv_lk hl rfl) ?_
  refine L_arg hC hS hl (i := i) rfl rfl 1 rfl (by omega) dL_law_751 dL_law_752 dL_law_754 dL_law_755 dL_law_756 ?_
  refine call_P (va_runV ⟨hx, hb, hml, hown, hts⟩ hM2 (cwV 1 hts (gi_V ml_L_134 im_X6_parentOf sl_X6_parentOf it_X6 cd_X6_parentOf) rfl rfl rfl (by decide +kernel) ⟨Nat.le_of_ble_eq_true rfl, Nat.le_of_ble_eq_true rfl⟩) (pP_V hK hrf (RPa_0 _ hrf) rfl) rfl rfl hl.1 rfl (lv_room (Nat.le_of_ble_eq_true rfl)) dL_law_757 ⟨hr1, hr2⟩) hA2 hS rfl (fun H2 locs j1 j2 hrf hS => ?_)
  have hc := CP_on _ _ hc j1 (fun q hq h9 => j2 q hq (hAR q h9))
  have hv := hv.kept (j2 o hv.lt hoR)
  refine lv_istore (lv' := [(6, .int (I b9)), (5, .int (I k)), (0, .ref b), (1, .ref (γ 0)), (2, .ref (ρ 0)), (3, .ref o), (4, .int (I (i : Int)))]) hx hb dL_law_760 hl (by decide) rfl (fun ls hl => ?_)
  refine lv_aload_n hx hb dL_law_762 rfl (lv_lk hl rfl) ?_
  refine call_P (A1 := noA) (va_runV ⟨hx, hb, hml, hown, hts⟩ thr_P (cwV 0 hts (gi_V ml_L_102 im_X6_thrown sl_X6_thrown it_X6 cd_X6_thrown) rfl rfl rfl (by decide +kernel) ⟨Nat.le_of_ble_eq_true rfl, Nat.le_of_ble_eq_true rfl⟩) (pP_V hK hrf (RP_0 hrf) rfl) rfl rfl hl.1 rfl (lv_room (Nat.le_of_ble_eq_true rfl)) dL_law_763 ⟨hr1, hr2⟩) (fun _ h9 => h9.elim) hS rfl (fun H3 locs i1 i2 _ hS => ?_)
  have hc := CP_on _ _ hc i1 (fun q hq _ => i2 q hq (fun h9 => h9))
  have hrf := RP_on _ _ hrf i1 (fun q hq _ => i2 q hq (fun h9 => h9))
  have hv := hv.kept (i2 o hv.lt (fun h9 => h9))
  refine lv_iload hx hb dL_law_766 (lv_lk hl rfl) ?_
  refine iv_icmp_eq (tgt := 773) hx hb dL_law_768 (by decide) (by omega) (by omega) (fun _ => ?_) (fun h9 => absurd rfl h9)
  refine lv_iload hx hb dL_law_773 (lv_lk hl rfl) ?_
  refine iv_if_ne (tgt := 790) hx hb dL_law_775 (by decide) (by omega) (fun _ => ?_) (fun e0 => ?_)
  · refine lv_goto (tgt := 1775) hx hb dL_law_790 (by decide) ?_
    exact kk _ _ _ ⟨st', sv', n', N', tx', hi', hLI, hc, ⟨_, hrf⟩, ⟨_, hv⟩, hS⟩ (lv_sub hl [2, 3, 4, 5, 6] rfl)
  · obtain rfl := (hvk e0).trans (hov e0)
    refine lv_aload_n hx hb dL_law_778 rfl (lv_lk hl rfl) ?_
    refine iv_iconst hx hb dL_law_779 ?_
    refine L_out hx hb hK hv dL_law_780 ?_
    refine lv_iload hx hb dL_law_781 (lv_lk hl rfl) ?_
    refine lv_i2l hx hb dL_law_783 rfl ?_
    refine W.lcmp hx hb dL_law_784 ?_
    rw [lg_cmp_self]
    refine iv_if_eq (tgt := 790) hx hb dL_law_785 (by decide) (by omega) (fun _ => ?_) (fun h9 => absurd rfl h9)
    refine lv_goto (tgt := 1775) hx hb dL_law_790 (by decide) ?_
    exact kk _ _ _ ⟨st', sv', n', N', tx', hi', hLI, hc, ⟨_, hrf⟩, ⟨_, hv⟩, hS⟩ (lv_sub hl [2, 3, 4, 5, 6] rfl)
set_option maxHeartbeats 400000 in
set_option maxRecDepth 100000 in
theorem case_depthOf {p : Program} {l : Launch} {e : Jvm.Env} {s : State} {m : MethodId} {args : Array Value} {below : List Frame} {meth : Method} {c : Code} {H : Heap} {locs : List Loc} {cells slots : Nat} {Q : State → Prop} {ls : Array Slot} {b L : Nat} {xs : Nat → Int32} {E : Env3} {γ α ρ : Nat → Nat} {o : Nat} {A : Nat → Prop} (hC : LawC p l s m args meth c b L xs E γ α ρ o A) (i : Nat) (hi4 : i + 4 ≤ L) (hl : lv_has ls 9 (lvL b γ ρ o i)) (hD : Dyn s E γ α ρ o A H locs) (hr1 : cells + 1 ≤ room_1.cells) (hr2 : slots + 6 ≤ room_1.slots)
    (kk : ∀ (H1 : Heap) (locs1 : List Loc) (ls1 : Array Slot), Dyn s E γ α ρ o A H1 locs1 → lv_has ls1 9 (lvL b γ ρ o i) → W p l e room_1 s m args below meth c H1 locs1 (cells + 1) (slots + 6) Q (F0 m 1775 ls1 [])) : W p l e room_1 s m args below meth c H locs cells slots Q (F0 m 793 ls []) := by
  obtain ⟨⟨hx, hb, hr, hml, hown, hlocks, hts⟩, ⟨hX, hbl, hL8⟩, ⟨hK, hKX, hZ, hl0⟩, ⟨hA, hA2, ho, hoA, hoR, hAR, hρ⟩⟩ := id hC
  obtain ⟨st, sv, n, N, tx, hi, hLI, hc, hrf, hou, hS⟩ := hD
  have hl : lv_has ls 9 [(0, .ref b), (1, .ref (γ 0)), (2, .ref (ρ 0)), (3, .ref o), (4, .int (I (i : Int)))] := hl
  obtain ⟨k, b9, ov, st', sv', n', N', tx', hi', hM1, hM2, hLI, hov, hk, hB⟩ := op_depthOf l hl0 E γ α ρ o A hoA hρ st sv n N tx hi hLI (xs (i + 1))
  have hAo : ∀ q, (A q ∨ q = o) → s.heap.size ≤ q := fun q h9 => h9.elim (hA q) (fun e9 => e9 ▸ ho)
  refine lv_aload_n hx hb dL_law_793 rfl (lv_lk hl rfl) ?_
  refine L_arg hC hS hl (i := i) rfl rfl 1 rfl (by omega) dL_law_794 dL_law_795 dL_law_797 dL_law_798 dL_law_799 ?_
  refine lv_aload_n hx hb dL_law_800 rfl (lv_lk hl rfl) ?_
  refine call_O (vx_runSW ⟨hx, hb, hml, hown, hts⟩ hM1 (vx_cwSW 3 hts (gi_S ml_L_135 st_L_depthOf it_L cd_L_depthOf) rfl rfl rfl (by decide +kernel) ⟨Nat.le_of_ble_eq_true rfl, Nat.le_of_ble_eq_true rfl⟩) (pX_S hK hKX ((hZ.kept hS.2.1).narrow hAo) ⟨hc, hou⟩) rfl rfl hl.1 rfl (lv_room (Nat.le_of_ble_eq_true rfl)) dL_law_801 ⟨hr1, hr2⟩) hAo hS (fun H1 locs k1 k2 hc v hv hvk hS => ?_)
  have hrf := RPa_on _ _ hrf k1 (fun q hq h9 => k2 q hq (fun h8 => h8.elim (fun h7 => hAR q h7 h9) (fun h7 => hoR (h7 ▸ h9))))
  refine lv_istore (lv' := [(5, .int (I k)), (0, .ref b), (1, .ref (γ 0)), (2, .ref (ρ 0)), (3, .ref o), (4, .int (I (i : Int)))]) hx hb dL_law_804 hl (by decide) rfl (fun ls hl => ?_)
  refine lv_aload_n hx hb dL_law_806 rfl (lv_lk hl rfl) ?_
  refine L_arg hC hS hl (i := i) rfl rfl 1 rfl (by omega) dL_law_807 dL_law_808 dL_law_810 dL_law_811 dL_law_812 ?_
  refine call_P (va_runV ⟨hx, hb, hml, hown, hts⟩ hM2 (cwV 1 hts (gi_V ml_L_137 im_X6_depthOf sl_X6_depthOf it_X6 cd_X6_depthOf) rfl rfl rfl (by decide +kernel) ⟨Nat.le_of_ble_eq_true rfl, Nat.le_of_ble_eq_true rfl⟩) (pP_V hK hrf (RPa_0 _ hrf) rfl) rfl rfl hl.1 rfl (lv_room (Nat.le_of_ble_eq_true rfl)) dL_law_813 ⟨hr1, hr2⟩) hA2 hS rfl (fun H2 locs j1 j2 hrf hS => ?_)
  have hc := CP_on _ _ hc j1 (fun q hq h9 => j2 q hq (hAR q h9))
  have hv := hv.kept (j2 o hv.lt hoR)
  refine lv_istore (lv' := [(6, .int (I b9)), (5, .int (I k)), (0, .ref b), (1, .ref (γ 0)), (2, .ref (ρ 0)), (3, .ref o), (4, .int (I (i : Int)))]) hx hb dL_law_816 hl (by decide) rfl (fun ls hl => ?_)
  refine lv_aload_n hx hb dL_law_818 rfl (lv_lk hl rfl) ?_
  refine call_P (A1 := noA) (va_runV ⟨hx, hb, hml, hown, hts⟩ thr_P (cwV 0 hts (gi_V ml_L_102 im_X6_thrown sl_X6_thrown it_X6 cd_X6_thrown) rfl rfl rfl (by decide +kernel) ⟨Nat.le_of_ble_eq_true rfl, Nat.le_of_ble_eq_true rfl⟩) (pP_V hK hrf (RP_0 hrf) rfl) rfl rfl hl.1 rfl (lv_room (Nat.le_of_ble_eq_true rfl)) dL_law_819 ⟨hr1, hr2⟩) (fun _ h9 => h9.elim) hS rfl (fun H3 locs i1 i2 _ hS => ?_)
  have hc := CP_on _ _ hc i1 (fun q hq _ => i2 q hq (fun h9 => h9))
  have hrf := RP_on _ _ hrf i1 (fun q hq _ => i2 q hq (fun h9 => h9))
  have hv := hv.kept (i2 o hv.lt (fun h9 => h9))
  refine lv_iload hx hb dL_law_822 (lv_lk hl rfl) ?_
  refine iv_icmp_eq (tgt := 829) hx hb dL_law_824 (by decide) (by omega) (by omega) (fun _ => ?_) (fun h9 => absurd rfl h9)
  refine lv_iload hx hb dL_law_829 (lv_lk hl rfl) ?_
  refine iv_if_ne (tgt := 846) hx hb dL_law_831 (by decide) (by omega) (fun _ => ?_) (fun e0 => ?_)
  · refine lv_goto (tgt := 1775) hx hb dL_law_846 (by decide) ?_
    exact kk _ _ _ ⟨st', sv', n', N', tx', hi', hLI, hc, ⟨_, hrf⟩, ⟨_, hv⟩, hS⟩ (lv_sub hl [2, 3, 4, 5, 6] rfl)
  · obtain rfl := (hvk e0).trans (hov e0)
    refine lv_aload_n hx hb dL_law_834 rfl (lv_lk hl rfl) ?_
    refine iv_iconst hx hb dL_law_835 ?_
    refine L_out hx hb hK hv dL_law_836 ?_
    refine lv_iload hx hb dL_law_837 (lv_lk hl rfl) ?_
    refine lv_i2l hx hb dL_law_839 rfl ?_
    refine W.lcmp hx hb dL_law_840 ?_
    rw [lg_cmp_self]
    refine iv_if_eq (tgt := 846) hx hb dL_law_841 (by decide) (by omega) (fun _ => ?_) (fun h9 => absurd rfl h9)
    refine lv_goto (tgt := 1775) hx hb dL_law_846 (by decide) ?_
    exact kk _ _ _ ⟨st', sv', n', N', tx', hi', hLI, hc, ⟨_, hrf⟩, ⟨_, hv⟩, hS⟩ (lv_sub hl [2, 3, 4, 5, 6] rfl)
set_option maxHeartbeats 400000 in
set_option maxRecDepth 100000 in
theorem case_kindOf {p : Program} {l : Launch} {e : Jvm.Env} {s : State} {m : MethodId} {args : Array Value} {below : List Frame} {meth : Method} {c : Code} {H : Heap} {locs : List Loc} {cells slots : Nat} {Q : State → Prop} {ls : Array Slot} {b L : Nat} {xs : Nat → Int32} {E : Env3} {γ α ρ : Nat → Nat} {o : Nat} {A : Nat → Prop} (hC : LawC p l s m args meth c b L xs E γ α ρ o A) (i : Nat) (hi4 : i + 4 ≤ L) (hl : lv_has ls 9 (lvL b γ ρ o i)) (hD : Dyn s E γ α ρ o A H locs) (hr1 : cells + 1 ≤ room_1.cells) (hr2 : slots + 6 ≤ room_1.slots)
    (kk : ∀ (H1 : Heap) (locs1 : List Loc) (ls1 : Array Slot), Dyn s E γ α ρ o A H1 locs1 → lv_has ls1 9 (lvL b γ ρ o i) → W p l e room_1 s m args below meth c H1 locs1 (cells + 1) (slots + 6) Q (F0 m 1775 ls1 [])) : W p l e room_1 s m args below meth c H locs cells slots Q (F0 m 849 ls []) := by
  obtain ⟨⟨hx, hb, hr, hml, hown, hlocks, hts⟩, ⟨hX, hbl, hL8⟩, ⟨hK, hKX, hZ, hl0⟩, ⟨hA, hA2, ho, hoA, hoR, hAR, hρ⟩⟩ := id hC
  obtain ⟨st, sv, n, N, tx, hi, hLI, hc, hrf, hou, hS⟩ := hD
  have hl : lv_has ls 9 [(0, .ref b), (1, .ref (γ 0)), (2, .ref (ρ 0)), (3, .ref o), (4, .int (I (i : Int)))] := hl
  obtain ⟨k, b9, ov, st', sv', n', N', tx', hi', hM1, hM2, hLI, hov, hk, hB⟩ := op_kindOf l hl0 E γ α ρ o A hoA hρ st sv n N tx hi hLI (xs (i + 1))
  have hAo : ∀ q, (A q ∨ q = o) → s.heap.size ≤ q := fun q h9 => h9.elim (hA q) (fun e9 => e9 ▸ ho)
  refine lv_aload_n hx hb dL_law_849 rfl (lv_lk hl rfl) ?_
  refine L_arg hC hS hl (i := i) rfl rfl 1 rfl (by omega) dL_law_850 dL_law_851 dL_law_853 dL_law_854 dL_law_855 ?_
  refine lv_aload_n hx hb dL_law_856 rfl (lv_lk hl rfl) ?_
  refine call_O (vx_runSW ⟨hx, hb, hml, hown, hts⟩ hM1 (vx_cwSW 3 hts (gi_S ml_L_138 st_L_kindOf it_L cd_L_kindOf) rfl rfl rfl (by decide +kernel) ⟨Nat.le_of_ble_eq_true rfl, Nat.le_of_ble_eq_true rfl⟩) (pX_S hK hKX ((hZ.kept hS.2.1).narrow hAo) ⟨hc, hou⟩) rfl rfl hl.1 rfl (lv_room (Nat.le_of_ble_eq_true rfl)) dL_law_857 ⟨hr1, hr2⟩) hAo hS (fun H1 locs k1 k2 hc v hv hvk hS => ?_)
  have hrf := RPa_on _ _ hrf k1 (fun q hq h9 => k2 q hq (fun h8 => h8.elim (fun h7 => hAR q h7 h9) (fun h7 => hoR (h7 ▸ h9))))
  refine lv_istore (lv' := [(5, .int (I k)), (0, .ref b), (1, .ref (γ 0)), (2, .ref (ρ 0)), (3, .ref o), (4, .int (I (i : Int)))]) hx hb dL_law_860 hl (by decide) rfl (fun ls hl => ?_)
  refine lv_aload_n hx hb dL_law_862 rfl (lv_lk hl rfl) ?_
  refine L_arg hC hS hl (i := i) rfl rfl 1 rfl (by omega) dL_law_863 dL_law_864 dL_law_866 dL_law_867 dL_law_868 ?_
  refine call_P (va_runV ⟨hx, hb, hml, hown, hts⟩ hM2 (cwV 1 hts (gi_V ml_L_140 im_X6_kindOf sl_X6_kindOf it_X6 cd_X6_kindOf) rfl rfl rfl (by decide +kernel) ⟨Nat.le_of_ble_eq_true rfl, Nat.le_of_ble_eq_true rfl⟩) (pP_V hK hrf (RPa_0 _ hrf) rfl) rfl rfl hl.1 rfl (lv_room (Nat.le_of_ble_eq_true rfl)) dL_law_869 ⟨hr1, hr2⟩) hA2 hS rfl (fun H2 locs j1 j2 hrf hS => ?_)
  have hc := CP_on _ _ hc j1 (fun q hq h9 => j2 q hq (hAR q h9))
  have hv := hv.kept (j2 o hv.lt hoR)
  refine lv_istore (lv' := [(6, .int (I b9)), (5, .int (I k)), (0, .ref b), (1, .ref (γ 0)), (2, .ref (ρ 0)), (3, .ref o), (4, .int (I (i : Int)))]) hx hb dL_law_872 hl (by decide) rfl (fun ls hl => ?_)
  refine lv_aload_n hx hb dL_law_874 rfl (lv_lk hl rfl) ?_
  refine call_P (A1 := noA) (va_runV ⟨hx, hb, hml, hown, hts⟩ thr_P (cwV 0 hts (gi_V ml_L_102 im_X6_thrown sl_X6_thrown it_X6 cd_X6_thrown) rfl rfl rfl (by decide +kernel) ⟨Nat.le_of_ble_eq_true rfl, Nat.le_of_ble_eq_true rfl⟩) (pP_V hK hrf (RP_0 hrf) rfl) rfl rfl hl.1 rfl (lv_room (Nat.le_of_ble_eq_true rfl)) dL_law_875 ⟨hr1, hr2⟩) (fun _ h9 => h9.elim) hS rfl (fun H3 locs i1 i2 _ hS => ?_)
  have hc := CP_on _ _ hc i1 (fun q hq _ => i2 q hq (fun h9 => h9))
  have hrf := RP_on _ _ hrf i1 (fun q hq _ => i2 q hq (fun h9 => h9))
  have hv := hv.kept (i2 o hv.lt (fun h9 => h9))
  refine lv_iload hx hb dL_law_878 (lv_lk hl rfl) ?_
  refine iv_icmp_eq (tgt := 885) hx hb dL_law_880 (by decide) (by omega) (by omega) (fun _ => ?_) (fun h9 => absurd rfl h9)
  refine lv_iload hx hb dL_law_885 (lv_lk hl rfl) ?_
  refine iv_if_ne (tgt := 902) hx hb dL_law_887 (by decide) (by omega) (fun _ => ?_) (fun e0 => ?_)
  · refine lv_goto (tgt := 1775) hx hb dL_law_902 (by decide) ?_
    exact kk _ _ _ ⟨st', sv', n', N', tx', hi', hLI, hc, ⟨_, hrf⟩, ⟨_, hv⟩, hS⟩ (lv_sub hl [2, 3, 4, 5, 6] rfl)
  · obtain rfl := (hvk e0).trans (hov e0)
    refine lv_aload_n hx hb dL_law_890 rfl (lv_lk hl rfl) ?_
    refine iv_iconst hx hb dL_law_891 ?_
    refine L_out hx hb hK hv dL_law_892 ?_
    refine lv_iload hx hb dL_law_893 (lv_lk hl rfl) ?_
    refine lv_i2l hx hb dL_law_895 rfl ?_
    refine W.lcmp hx hb dL_law_896 ?_
    rw [lg_cmp_self]
    refine iv_if_eq (tgt := 902) hx hb dL_law_897 (by decide) (by omega) (fun _ => ?_) (fun h9 => absurd rfl h9)
    refine lv_goto (tgt := 1775) hx hb dL_law_902 (by decide) ?_
    exact kk _ _ _ ⟨st', sv', n', N', tx', hi', hLI, hc, ⟨_, hrf⟩, ⟨_, hv⟩, hS⟩ (lv_sub hl [2, 3, 4, 5, 6] rfl)
set_option maxHeartbeats 400000 in
set_option maxRecDepth 100000 in
theorem case_valueOf {p : Program} {l : Launch} {e : Jvm.Env} {s : State} {m : MethodId} {args : Array Value} {below : List Frame} {meth : Method} {c : Code} {H : Heap} {locs : List Loc} {cells slots : Nat} {Q : State → Prop} {ls : Array Slot} {b L : Nat} {xs : Nat → Int32} {E : Env3} {γ α ρ : Nat → Nat} {o : Nat} {A : Nat → Prop} (hC : LawC p l s m args meth c b L xs E γ α ρ o A) (i : Nat) (hi4 : i + 4 ≤ L) (hl : lv_has ls 9 (lvL b γ ρ o i)) (hD : Dyn s E γ α ρ o A H locs) (hr1 : cells + 1 ≤ room_1.cells) (hr2 : slots + 6 ≤ room_1.slots)
    (kk : ∀ (H1 : Heap) (locs1 : List Loc) (ls1 : Array Slot), Dyn s E γ α ρ o A H1 locs1 → lv_has ls1 9 (lvL b γ ρ o i) → W p l e room_1 s m args below meth c H1 locs1 (cells + 1) (slots + 6) Q (F0 m 1775 ls1 [])) : W p l e room_1 s m args below meth c H locs cells slots Q (F0 m 905 ls []) := by
  obtain ⟨⟨hx, hb, hr, hml, hown, hlocks, hts⟩, ⟨hX, hbl, hL8⟩, ⟨hK, hKX, hZ, hl0⟩, ⟨hA, hA2, ho, hoA, hoR, hAR, hρ⟩⟩ := id hC
  obtain ⟨st, sv, n, N, tx, hi, hLI, hc, hrf, hou, hS⟩ := hD
  have hl : lv_has ls 9 [(0, .ref b), (1, .ref (γ 0)), (2, .ref (ρ 0)), (3, .ref o), (4, .int (I (i : Int)))] := hl
  obtain ⟨k, b9, ov, st', sv', n', N', tx', hi', hM1, hM2, hLI, hov, hk, hB⟩ := op_valueOf l hl0 E γ α ρ o A hoA hρ st sv n N tx hi hLI (xs (i + 1))
  have hAo : ∀ q, (A q ∨ q = o) → s.heap.size ≤ q := fun q h9 => h9.elim (hA q) (fun e9 => e9 ▸ ho)
  refine lv_aload_n hx hb dL_law_905 rfl (lv_lk hl rfl) ?_
  refine L_arg hC hS hl (i := i) rfl rfl 1 rfl (by omega) dL_law_906 dL_law_907 dL_law_909 dL_law_910 dL_law_911 ?_
  refine lv_aload_n hx hb dL_law_912 rfl (lv_lk hl rfl) ?_
  refine call_O (vx_runSW ⟨hx, hb, hml, hown, hts⟩ hM1 (vx_cwSW 3 hts (gi_S ml_L_141 st_L_valueOf it_L cd_L_valueOf) rfl rfl rfl (by decide +kernel) ⟨Nat.le_of_ble_eq_true rfl, Nat.le_of_ble_eq_true rfl⟩) (pX_S hK hKX ((hZ.kept hS.2.1).narrow hAo) ⟨hc, hou⟩) rfl rfl hl.1 rfl (lv_room (Nat.le_of_ble_eq_true rfl)) dL_law_913 ⟨hr1, hr2⟩) hAo hS (fun H1 locs k1 k2 hc v hv hvk hS => ?_)
  have hrf := RPa_on _ _ hrf k1 (fun q hq h9 => k2 q hq (fun h8 => h8.elim (fun h7 => hAR q h7 h9) (fun h7 => hoR (h7 ▸ h9))))
  refine lv_istore (lv' := [(5, .int (I k)), (0, .ref b), (1, .ref (γ 0)), (2, .ref (ρ 0)), (3, .ref o), (4, .int (I (i : Int)))]) hx hb dL_law_916 hl (by decide) rfl (fun ls hl => ?_)
  refine lv_aload_n hx hb dL_law_918 rfl (lv_lk hl rfl) ?_
  refine L_arg hC hS hl (i := i) rfl rfl 1 rfl (by omega) dL_law_919 dL_law_920 dL_law_922 dL_law_923 dL_law_924 ?_
  refine call_P (va_runV ⟨hx, hb, hml, hown, hts⟩ hM2 (cwV 1 hts (gi_V ml_L_143 im_X6_valueOf sl_X6_valueOf it_X6 cd_X6_valueOf) rfl rfl rfl (by decide +kernel) ⟨Nat.le_of_ble_eq_true rfl, Nat.le_of_ble_eq_true rfl⟩) (pP_V hK hrf (RPa_0 _ hrf) rfl) rfl rfl hl.1 rfl (lv_room (Nat.le_of_ble_eq_true rfl)) dL_law_925 ⟨hr1, hr2⟩) hA2 hS rfl (fun H2 locs j1 j2 hrf hS => ?_)
  have hc := CP_on _ _ hc j1 (fun q hq h9 => j2 q hq (hAR q h9))
  have hv := hv.kept (j2 o hv.lt hoR)
  refine lv_istore (lv' := [(6, .int (I b9)), (5, .int (I k)), (0, .ref b), (1, .ref (γ 0)), (2, .ref (ρ 0)), (3, .ref o), (4, .int (I (i : Int)))]) hx hb dL_law_928 hl (by decide) rfl (fun ls hl => ?_)
  refine lv_aload_n hx hb dL_law_930 rfl (lv_lk hl rfl) ?_
  refine call_P (A1 := noA) (va_runV ⟨hx, hb, hml, hown, hts⟩ thr_P (cwV 0 hts (gi_V ml_L_102 im_X6_thrown sl_X6_thrown it_X6 cd_X6_thrown) rfl rfl rfl (by decide +kernel) ⟨Nat.le_of_ble_eq_true rfl, Nat.le_of_ble_eq_true rfl⟩) (pP_V hK hrf (RP_0 hrf) rfl) rfl rfl hl.1 rfl (lv_room (Nat.le_of_ble_eq_true rfl)) dL_law_931 ⟨hr1, hr2⟩) (fun _ h9 => h9.elim) hS rfl (fun H3 locs i1 i2 _ hS => ?_)
  have hc := CP_on _ _ hc i1 (fun q hq _ => i2 q hq (fun h9 => h9))
  have hrf := RP_on _ _ hrf i1 (fun q hq _ => i2 q hq (fun h9 => h9))
  have hv := hv.kept (i2 o hv.lt (fun h9 => h9))
  refine lv_iload hx hb dL_law_934 (lv_lk hl rfl) ?_
  refine iv_icmp_eq (tgt := 941) hx hb dL_law_936 (by decide) (by omega) (by omega) (fun _ => ?_) (fun h9 => absurd rfl h9)
  refine lv_iload hx hb dL_law_941 (lv_lk hl rfl) ?_
  refine iv_if_ne (tgt := 958) hx hb dL_law_943 (by decide) (by omega) (fun _ => ?_) (fun e0 => ?_)
  · refine lv_goto (tgt := 1775) hx hb dL_law_958 (by decide) ?_
    exact kk _ _ _ ⟨st', sv', n', N', tx', hi', hLI, hc, ⟨_, hrf⟩, ⟨_, hv⟩, hS⟩ (lv_sub hl [2, 3, 4, 5, 6] rfl)
  · obtain rfl := (hvk e0).trans (hov e0)
    refine lv_aload_n hx hb dL_law_946 rfl (lv_lk hl rfl) ?_
    refine iv_iconst hx hb dL_law_947 ?_
    refine L_out hx hb hK hv dL_law_948 ?_
    refine lv_iload hx hb dL_law_949 (lv_lk hl rfl) ?_
    refine lv_i2l hx hb dL_law_951 rfl ?_
    refine W.lcmp hx hb dL_law_952 ?_
    rw [lg_cmp_self]
    refine iv_if_eq (tgt := 958) hx hb dL_law_953 (by decide) (by omega) (fun _ => ?_) (fun h9 => absurd rfl h9)
    refine lv_goto (tgt := 1775) hx hb dL_law_958 (by decide) ?_
    exact kk _ _ _ ⟨st', sv', n', N', tx', hi', hLI, hc, ⟨_, hrf⟩, ⟨_, hv⟩, hS⟩ (lv_sub hl [2, 3, 4, 5, 6] rfl)
set_option maxHeartbeats 400000 in
set_option maxRecDepth 100000 in
theorem case_truthOf {p : Program} {l : Launch} {e : Jvm.Env} {s : State} {m : MethodId} {args : Array Value} {below : List Frame} {meth : Method} {c : Code} {H : Heap} {locs : List Loc} {cells slots : Nat} {Q : State → Prop} {ls : Array Slot} {b L : Nat} {xs : Nat → Int32} {E : Env3} {γ α ρ : Nat → Nat} {o : Nat} {A : Nat → Prop} (hC : LawC p l s m args meth c b L xs E γ α ρ o A) (i : Nat) (hi4 : i + 4 ≤ L) (hl : lv_has ls 9 (lvL b γ ρ o i)) (hD : Dyn s E γ α ρ o A H locs) (hr1 : cells + 1 ≤ room_1.cells) (hr2 : slots + 6 ≤ room_1.slots)
    (kk : ∀ (H1 : Heap) (locs1 : List Loc) (ls1 : Array Slot), Dyn s E γ α ρ o A H1 locs1 → lv_has ls1 9 (lvL b γ ρ o i) → W p l e room_1 s m args below meth c H1 locs1 (cells + 1) (slots + 6) Q (F0 m 1775 ls1 [])) : W p l e room_1 s m args below meth c H locs cells slots Q (F0 m 961 ls []) := by
  obtain ⟨⟨hx, hb, hr, hml, hown, hlocks, hts⟩, ⟨hX, hbl, hL8⟩, ⟨hK, hKX, hZ, hl0⟩, ⟨hA, hA2, ho, hoA, hoR, hAR, hρ⟩⟩ := id hC
  obtain ⟨st, sv, n, N, tx, hi, hLI, hc, hrf, hou, hS⟩ := hD
  have hl : lv_has ls 9 [(0, .ref b), (1, .ref (γ 0)), (2, .ref (ρ 0)), (3, .ref o), (4, .int (I (i : Int)))] := hl
  obtain ⟨k, b9, ov, st', sv', n', N', tx', hi', hM1, hM2, hLI, hov, hk, hB⟩ := op_truthOf l hl0 E γ α ρ o A hoA hρ st sv n N tx hi hLI (xs (i + 1))
  have hAo : ∀ q, (A q ∨ q = o) → s.heap.size ≤ q := fun q h9 => h9.elim (hA q) (fun e9 => e9 ▸ ho)
  refine lv_aload_n hx hb dL_law_961 rfl (lv_lk hl rfl) ?_
  refine L_arg hC hS hl (i := i) rfl rfl 1 rfl (by omega) dL_law_962 dL_law_963 dL_law_965 dL_law_966 dL_law_967 ?_
  refine lv_aload_n hx hb dL_law_968 rfl (lv_lk hl rfl) ?_
  refine call_O (vx_runSW ⟨hx, hb, hml, hown, hts⟩ hM1 (vx_cwSW 3 hts (gi_S ml_L_144 st_L_truthOf it_L cd_L_truthOf) rfl rfl rfl (by decide +kernel) ⟨Nat.le_of_ble_eq_true rfl, Nat.le_of_ble_eq_true rfl⟩) (pX_S hK hKX ((hZ.kept hS.2.1).narrow hAo) ⟨hc, hou⟩) rfl rfl hl.1 rfl (lv_room (Nat.le_of_ble_eq_true rfl)) dL_law_969 ⟨hr1, hr2⟩) hAo hS (fun H1 locs k1 k2 hc v hv hvk hS => ?_)
  have hrf := RPa_on _ _ hrf k1 (fun q hq h9 => k2 q hq (fun h8 => h8.elim (fun h7 => hAR q h7 h9) (fun h7 => hoR (h7 ▸ h9))))
  refine lv_istore (lv' := [(5, .int (I k)), (0, .ref b), (1, .ref (γ 0)), (2, .ref (ρ 0)), (3, .ref o), (4, .int (I (i : Int)))]) hx hb dL_law_972 hl (by decide) rfl (fun ls hl => ?_)
  refine lv_aload_n hx hb dL_law_974 rfl (lv_lk hl rfl) ?_
  refine L_arg hC hS hl (i := i) rfl rfl 1 rfl (by omega) dL_law_975 dL_law_976 dL_law_978 dL_law_979 dL_law_980 ?_
  refine call_P (va_runV ⟨hx, hb, hml, hown, hts⟩ hM2 (cwV 1 hts (gi_V ml_L_146 im_X6_truthOf sl_X6_truthOf it_X6 cd_X6_truthOf) rfl rfl rfl (by decide +kernel) ⟨Nat.le_of_ble_eq_true rfl, Nat.le_of_ble_eq_true rfl⟩) (pP_V hK hrf (RPa_0 _ hrf) rfl) rfl rfl hl.1 rfl (lv_room (Nat.le_of_ble_eq_true rfl)) dL_law_981 ⟨hr1, hr2⟩) hA2 hS rfl (fun H2 locs j1 j2 hrf hS => ?_)
  have hc := CP_on _ _ hc j1 (fun q hq h9 => j2 q hq (hAR q h9))
  have hv := hv.kept (j2 o hv.lt hoR)
  refine lv_istore (lv' := [(6, .int (I b9)), (5, .int (I k)), (0, .ref b), (1, .ref (γ 0)), (2, .ref (ρ 0)), (3, .ref o), (4, .int (I (i : Int)))]) hx hb dL_law_984 hl (by decide) rfl (fun ls hl => ?_)
  refine lv_aload_n hx hb dL_law_986 rfl (lv_lk hl rfl) ?_
  refine call_P (A1 := noA) (va_runV ⟨hx, hb, hml, hown, hts⟩ thr_P (cwV 0 hts (gi_V ml_L_102 im_X6_thrown sl_X6_thrown it_X6 cd_X6_thrown) rfl rfl rfl (by decide +kernel) ⟨Nat.le_of_ble_eq_true rfl, Nat.le_of_ble_eq_true rfl⟩) (pP_V hK hrf (RP_0 hrf) rfl) rfl rfl hl.1 rfl (lv_room (Nat.le_of_ble_eq_true rfl)) dL_law_987 ⟨hr1, hr2⟩) (fun _ h9 => h9.elim) hS rfl (fun H3 locs i1 i2 _ hS => ?_)
  have hc := CP_on _ _ hc i1 (fun q hq _ => i2 q hq (fun h9 => h9))
  have hrf := RP_on _ _ hrf i1 (fun q hq _ => i2 q hq (fun h9 => h9))
  have hv := hv.kept (i2 o hv.lt (fun h9 => h9))
  refine lv_iload hx hb dL_law_990 (lv_lk hl rfl) ?_
  refine iv_icmp_eq (tgt := 997) hx hb dL_law_992 (by decide) (by omega) (by omega) (fun _ => ?_) (fun h9 => absurd rfl h9)
  refine lv_iload hx hb dL_law_997 (lv_lk hl rfl) ?_
  refine iv_if_ne (tgt := 1014) hx hb dL_law_999 (by decide) (by omega) (fun _ => ?_) (fun e0 => ?_)
  · refine lv_goto (tgt := 1775) hx hb dL_law_1014 (by decide) ?_
    exact kk _ _ _ ⟨st', sv', n', N', tx', hi', hLI, hc, ⟨_, hrf⟩, ⟨_, hv⟩, hS⟩ (lv_sub hl [2, 3, 4, 5, 6] rfl)
  · obtain rfl := (hvk e0).trans (hov e0)
    refine lv_aload_n hx hb dL_law_1002 rfl (lv_lk hl rfl) ?_
    refine iv_iconst hx hb dL_law_1003 ?_
    refine L_out hx hb hK hv dL_law_1004 ?_
    refine lv_iload hx hb dL_law_1005 (lv_lk hl rfl) ?_
    refine lv_i2l hx hb dL_law_1007 rfl ?_
    refine W.lcmp hx hb dL_law_1008 ?_
    rw [lg_cmp_self]
    refine iv_if_eq (tgt := 1014) hx hb dL_law_1009 (by decide) (by omega) (fun _ => ?_) (fun h9 => absurd rfl h9)
    refine lv_goto (tgt := 1775) hx hb dL_law_1014 (by decide) ?_
    exact kk _ _ _ ⟨st', sv', n', N', tx', hi', hLI, hc, ⟨_, hrf⟩, ⟨_, hv⟩, hS⟩ (lv_sub hl [2, 3, 4, 5, 6] rfl)
set_option maxHeartbeats 400000 in
set_option maxRecDepth 100000 in
theorem case_rememberedOf {p : Program} {l : Launch} {e : Jvm.Env} {s : State} {m : MethodId} {args : Array Value} {below : List Frame} {meth : Method} {c : Code} {H : Heap} {locs : List Loc} {cells slots : Nat} {Q : State → Prop} {ls : Array Slot} {b L : Nat} {xs : Nat → Int32} {E : Env3} {γ α ρ : Nat → Nat} {o : Nat} {A : Nat → Prop} (hC : LawC p l s m args meth c b L xs E γ α ρ o A) (i : Nat) (hi4 : i + 4 ≤ L) (hl : lv_has ls 9 (lvL b γ ρ o i)) (hD : Dyn s E γ α ρ o A H locs) (hr1 : cells + 1 ≤ room_1.cells) (hr2 : slots + 6 ≤ room_1.slots)
    (kk : ∀ (H1 : Heap) (locs1 : List Loc) (ls1 : Array Slot), Dyn s E γ α ρ o A H1 locs1 → lv_has ls1 9 (lvL b γ ρ o i) → W p l e room_1 s m args below meth c H1 locs1 (cells + 1) (slots + 6) Q (F0 m 1775 ls1 [])) : W p l e room_1 s m args below meth c H locs cells slots Q (F0 m 1017 ls []) := by
  obtain ⟨⟨hx, hb, hr, hml, hown, hlocks, hts⟩, ⟨hX, hbl, hL8⟩, ⟨hK, hKX, hZ, hl0⟩, ⟨hA, hA2, ho, hoA, hoR, hAR, hρ⟩⟩ := id hC
  obtain ⟨st, sv, n, N, tx, hi, hLI, hc, hrf, hou, hS⟩ := hD
  have hl : lv_has ls 9 [(0, .ref b), (1, .ref (γ 0)), (2, .ref (ρ 0)), (3, .ref o), (4, .int (I (i : Int)))] := hl
  obtain ⟨k, b9, ov, st', sv', n', N', tx', hi', hM1, hM2, hLI, hov, hk, hB⟩ := op_rememberedOf l hl0 E γ α ρ o A hoA hρ st sv n N tx hi hLI (xs (i + 1))
  have hAo : ∀ q, (A q ∨ q = o) → s.heap.size ≤ q := fun q h9 => h9.elim (hA q) (fun e9 => e9 ▸ ho)
  refine lv_aload_n hx hb dL_law_1017 rfl (lv_lk hl rfl) ?_
  refine L_arg hC hS hl (i := i) rfl rfl 1 rfl (by omega) dL_law_1018 dL_law_1019 dL_law_1021 dL_law_1022 dL_law_1023 ?_
  refine lv_aload_n hx hb dL_law_1024 rfl (lv_lk hl rfl) ?_
  refine call_O (vx_runSW ⟨hx, hb, hml, hown, hts⟩ hM1 (vx_cwSW 3 hts (gi_S ml_L_147 st_L_rememberedOf it_L cd_L_rememberedOf) rfl rfl rfl (by decide +kernel) ⟨Nat.le_of_ble_eq_true rfl, Nat.le_of_ble_eq_true rfl⟩) (pX_S hK hKX ((hZ.kept hS.2.1).narrow hAo) ⟨hc, hou⟩) rfl rfl hl.1 rfl (lv_room (Nat.le_of_ble_eq_true rfl)) dL_law_1025 ⟨hr1, hr2⟩) hAo hS (fun H1 locs k1 k2 hc v hv hvk hS => ?_)
  have hrf := RPa_on _ _ hrf k1 (fun q hq h9 => k2 q hq (fun h8 => h8.elim (fun h7 => hAR q h7 h9) (fun h7 => hoR (h7 ▸ h9))))
  refine lv_istore (lv' := [(5, .int (I k)), (0, .ref b), (1, .ref (γ 0)), (2, .ref (ρ 0)), (3, .ref o), (4, .int (I (i : Int)))]) hx hb dL_law_1028 hl (by decide) rfl (fun ls hl => ?_)
  refine lv_aload_n hx hb dL_law_1030 rfl (lv_lk hl rfl) ?_
  refine L_arg hC hS hl (i := i) rfl rfl 1 rfl (by omega) dL_law_1031 dL_law_1032 dL_law_1034 dL_law_1035 dL_law_1036 ?_
  refine call_P (va_runV ⟨hx, hb, hml, hown, hts⟩ hM2 (cwV 1 hts (gi_V ml_L_149 im_X6_rememberedOf sl_X6_rememberedOf it_X6 cd_X6_rememberedOf) rfl rfl rfl (by decide +kernel) ⟨Nat.le_of_ble_eq_true rfl, Nat.le_of_ble_eq_true rfl⟩) (pP_V hK hrf (RPa_0 _ hrf) rfl) rfl rfl hl.1 rfl (lv_room (Nat.le_of_ble_eq_true rfl)) dL_law_1037 ⟨hr1, hr2⟩) hA2 hS rfl (fun H2 locs j1 j2 hrf hS => ?_)
  have hc := CP_on _ _ hc j1 (fun q hq h9 => j2 q hq (hAR q h9))
  have hv := hv.kept (j2 o hv.lt hoR)
  refine lv_istore (lv' := [(6, .int (I b9)), (5, .int (I k)), (0, .ref b), (1, .ref (γ 0)), (2, .ref (ρ 0)), (3, .ref o), (4, .int (I (i : Int)))]) hx hb dL_law_1040 hl (by decide) rfl (fun ls hl => ?_)
  refine lv_aload_n hx hb dL_law_1042 rfl (lv_lk hl rfl) ?_
  refine call_P (A1 := noA) (va_runV ⟨hx, hb, hml, hown, hts⟩ thr_P (cwV 0 hts (gi_V ml_L_102 im_X6_thrown sl_X6_thrown it_X6 cd_X6_thrown) rfl rfl rfl (by decide +kernel) ⟨Nat.le_of_ble_eq_true rfl, Nat.le_of_ble_eq_true rfl⟩) (pP_V hK hrf (RP_0 hrf) rfl) rfl rfl hl.1 rfl (lv_room (Nat.le_of_ble_eq_true rfl)) dL_law_1043 ⟨hr1, hr2⟩) (fun _ h9 => h9.elim) hS rfl (fun H3 locs i1 i2 _ hS => ?_)
  have hc := CP_on _ _ hc i1 (fun q hq _ => i2 q hq (fun h9 => h9))
  have hrf := RP_on _ _ hrf i1 (fun q hq _ => i2 q hq (fun h9 => h9))
  have hv := hv.kept (i2 o hv.lt (fun h9 => h9))
  refine lv_iload hx hb dL_law_1046 (lv_lk hl rfl) ?_
  refine iv_icmp_eq (tgt := 1053) hx hb dL_law_1048 (by decide) (by omega) (by omega) (fun _ => ?_) (fun h9 => absurd rfl h9)
  refine lv_iload hx hb dL_law_1053 (lv_lk hl rfl) ?_
  refine iv_if_ne (tgt := 1070) hx hb dL_law_1055 (by decide) (by omega) (fun _ => ?_) (fun e0 => ?_)
  · refine lv_goto (tgt := 1775) hx hb dL_law_1070 (by decide) ?_
    exact kk _ _ _ ⟨st', sv', n', N', tx', hi', hLI, hc, ⟨_, hrf⟩, ⟨_, hv⟩, hS⟩ (lv_sub hl [2, 3, 4, 5, 6] rfl)
  · obtain rfl := (hvk e0).trans (hov e0)
    refine lv_aload_n hx hb dL_law_1058 rfl (lv_lk hl rfl) ?_
    refine iv_iconst hx hb dL_law_1059 ?_
    refine L_out hx hb hK hv dL_law_1060 ?_
    refine lv_iload hx hb dL_law_1061 (lv_lk hl rfl) ?_
    refine lv_i2l hx hb dL_law_1063 rfl ?_
    refine W.lcmp hx hb dL_law_1064 ?_
    rw [lg_cmp_self]
    refine iv_if_eq (tgt := 1070) hx hb dL_law_1065 (by decide) (by omega) (fun _ => ?_) (fun h9 => absurd rfl h9)
    refine lv_goto (tgt := 1775) hx hb dL_law_1070 (by decide) ?_
    exact kk _ _ _ ⟨st', sv', n', N', tx', hi', hLI, hc, ⟨_, hrf⟩, ⟨_, hv⟩, hS⟩ (lv_sub hl [2, 3, 4, 5, 6] rfl)
set_option maxHeartbeats 400000 in
set_option maxRecDepth 100000 in
theorem case_ticksLeftOf {p : Program} {l : Launch} {e : Jvm.Env} {s : State} {m : MethodId} {args : Array Value} {below : List Frame} {meth : Method} {c : Code} {H : Heap} {locs : List Loc} {cells slots : Nat} {Q : State → Prop} {ls : Array Slot} {b L : Nat} {xs : Nat → Int32} {E : Env3} {γ α ρ : Nat → Nat} {o : Nat} {A : Nat → Prop} (hC : LawC p l s m args meth c b L xs E γ α ρ o A) (i : Nat) (hi4 : i + 4 ≤ L) (hl : lv_has ls 9 (lvL b γ ρ o i)) (hD : Dyn s E γ α ρ o A H locs) (hr1 : cells + 1 ≤ room_1.cells) (hr2 : slots + 6 ≤ room_1.slots)
    (kk : ∀ (H1 : Heap) (locs1 : List Loc) (ls1 : Array Slot), Dyn s E γ α ρ o A H1 locs1 → lv_has ls1 9 (lvL b γ ρ o i) → W p l e room_1 s m args below meth c H1 locs1 (cells + 1) (slots + 6) Q (F0 m 1775 ls1 [])) : W p l e room_1 s m args below meth c H locs cells slots Q (F0 m 1073 ls []) := by
  obtain ⟨⟨hx, hb, hr, hml, hown, hlocks, hts⟩, ⟨hX, hbl, hL8⟩, ⟨hK, hKX, hZ, hl0⟩, ⟨hA, hA2, ho, hoA, hoR, hAR, hρ⟩⟩ := id hC
  obtain ⟨st, sv, n, N, tx, hi, hLI, hc, hrf, hou, hS⟩ := hD
  have hl : lv_has ls 9 [(0, .ref b), (1, .ref (γ 0)), (2, .ref (ρ 0)), (3, .ref o), (4, .int (I (i : Int)))] := hl
  obtain ⟨k, b9, ov, st', sv', n', N', tx', hi', hM1, hM2, hLI, hov, hk, hB⟩ := op_ticksLeftOf l hl0 E γ α ρ o A hoA hρ st sv n N tx hi hLI (xs (i + 1))
  have hAo : ∀ q, (A q ∨ q = o) → s.heap.size ≤ q := fun q h9 => h9.elim (hA q) (fun e9 => e9 ▸ ho)
  refine lv_aload_n hx hb dL_law_1073 rfl (lv_lk hl rfl) ?_
  refine L_arg hC hS hl (i := i) rfl rfl 1 rfl (by omega) dL_law_1074 dL_law_1075 dL_law_1077 dL_law_1078 dL_law_1079 ?_
  refine lv_aload_n hx hb dL_law_1080 rfl (lv_lk hl rfl) ?_
  refine call_O (vx_runSW ⟨hx, hb, hml, hown, hts⟩ hM1 (vx_cwSW 3 hts (gi_S ml_L_150 st_L_ticksLeftOf it_L cd_L_ticksLeftOf) rfl rfl rfl (by decide +kernel) ⟨Nat.le_of_ble_eq_true rfl, Nat.le_of_ble_eq_true rfl⟩) (pX_S hK hKX ((hZ.kept hS.2.1).narrow hAo) ⟨hc, hou⟩) rfl rfl hl.1 rfl (lv_room (Nat.le_of_ble_eq_true rfl)) dL_law_1081 ⟨hr1, hr2⟩) hAo hS (fun H1 locs k1 k2 hc v hv hvk hS => ?_)
  have hrf := RPa_on _ _ hrf k1 (fun q hq h9 => k2 q hq (fun h8 => h8.elim (fun h7 => hAR q h7 h9) (fun h7 => hoR (h7 ▸ h9))))
  refine lv_istore (lv' := [(5, .int (I k)), (0, .ref b), (1, .ref (γ 0)), (2, .ref (ρ 0)), (3, .ref o), (4, .int (I (i : Int)))]) hx hb dL_law_1084 hl (by decide) rfl (fun ls hl => ?_)
  refine lv_aload_n hx hb dL_law_1086 rfl (lv_lk hl rfl) ?_
  refine L_arg hC hS hl (i := i) rfl rfl 1 rfl (by omega) dL_law_1087 dL_law_1088 dL_law_1090 dL_law_1091 dL_law_1092 ?_
  refine call_P (va_runV ⟨hx, hb, hml, hown, hts⟩ hM2 (cwV 1 hts (gi_V ml_L_152 im_X6_ticksLeftOf sl_X6_ticksLeftOf it_X6 cd_X6_ticksLeftOf) rfl rfl rfl (by decide +kernel) ⟨Nat.le_of_ble_eq_true rfl, Nat.le_of_ble_eq_true rfl⟩) (pP_V hK hrf (RPa_0 _ hrf) rfl) rfl rfl hl.1 rfl (lv_room (Nat.le_of_ble_eq_true rfl)) dL_law_1093 ⟨hr1, hr2⟩) hA2 hS rfl (fun H2 locs j1 j2 hrf hS => ?_)
  have hc := CP_on _ _ hc j1 (fun q hq h9 => j2 q hq (hAR q h9))
  have hv := hv.kept (j2 o hv.lt hoR)
  refine lv_istore (lv' := [(6, .int (I b9)), (5, .int (I k)), (0, .ref b), (1, .ref (γ 0)), (2, .ref (ρ 0)), (3, .ref o), (4, .int (I (i : Int)))]) hx hb dL_law_1096 hl (by decide) rfl (fun ls hl => ?_)
  refine lv_aload_n hx hb dL_law_1098 rfl (lv_lk hl rfl) ?_
  refine call_P (A1 := noA) (va_runV ⟨hx, hb, hml, hown, hts⟩ thr_P (cwV 0 hts (gi_V ml_L_102 im_X6_thrown sl_X6_thrown it_X6 cd_X6_thrown) rfl rfl rfl (by decide +kernel) ⟨Nat.le_of_ble_eq_true rfl, Nat.le_of_ble_eq_true rfl⟩) (pP_V hK hrf (RP_0 hrf) rfl) rfl rfl hl.1 rfl (lv_room (Nat.le_of_ble_eq_true rfl)) dL_law_1099 ⟨hr1, hr2⟩) (fun _ h9 => h9.elim) hS rfl (fun H3 locs i1 i2 _ hS => ?_)
  have hc := CP_on _ _ hc i1 (fun q hq _ => i2 q hq (fun h9 => h9))
  have hrf := RP_on _ _ hrf i1 (fun q hq _ => i2 q hq (fun h9 => h9))
  have hv := hv.kept (i2 o hv.lt (fun h9 => h9))
  refine lv_iload hx hb dL_law_1102 (lv_lk hl rfl) ?_
  refine iv_icmp_eq (tgt := 1109) hx hb dL_law_1104 (by decide) (by omega) (by omega) (fun _ => ?_) (fun h9 => absurd rfl h9)
  refine lv_iload hx hb dL_law_1109 (lv_lk hl rfl) ?_
  refine iv_if_ne (tgt := 1126) hx hb dL_law_1111 (by decide) (by omega) (fun _ => ?_) (fun e0 => ?_)
  · refine lv_goto (tgt := 1775) hx hb dL_law_1126 (by decide) ?_
    exact kk _ _ _ ⟨st', sv', n', N', tx', hi', hLI, hc, ⟨_, hrf⟩, ⟨_, hv⟩, hS⟩ (lv_sub hl [2, 3, 4, 5, 6] rfl)
  · obtain rfl := (hvk e0).trans (hov e0)
    refine lv_aload_n hx hb dL_law_1114 rfl (lv_lk hl rfl) ?_
    refine iv_iconst hx hb dL_law_1115 ?_
    refine L_out hx hb hK hv dL_law_1116 ?_
    refine lv_iload hx hb dL_law_1117 (lv_lk hl rfl) ?_
    refine lv_i2l hx hb dL_law_1119 rfl ?_
    refine W.lcmp hx hb dL_law_1120 ?_
    rw [lg_cmp_self]
    refine iv_if_eq (tgt := 1126) hx hb dL_law_1121 (by decide) (by omega) (fun _ => ?_) (fun h9 => absurd rfl h9)
    refine lv_goto (tgt := 1775) hx hb dL_law_1126 (by decide) ?_
    exact kk _ _ _ ⟨st', sv', n', N', tx', hi', hLI, hc, ⟨_, hrf⟩, ⟨_, hv⟩, hS⟩ (lv_sub hl [2, 3, 4, 5, 6] rfl)
set_option maxHeartbeats 400000 in
set_option maxRecDepth 100000 in
theorem case_referralLeft {p : Program} {l : Launch} {e : Jvm.Env} {s : State} {m : MethodId} {args : Array Value} {below : List Frame} {meth : Method} {c : Code} {H : Heap} {locs : List Loc} {cells slots : Nat} {Q : State → Prop} {ls : Array Slot} {b L : Nat} {xs : Nat → Int32} {E : Env3} {γ α ρ : Nat → Nat} {o : Nat} {A : Nat → Prop} (hC : LawC p l s m args meth c b L xs E γ α ρ o A) (i : Nat) (hi4 : i + 4 ≤ L) (hl : lv_has ls 9 (lvL b γ ρ o i)) (hD : Dyn s E γ α ρ o A H locs) (hr1 : cells + 1 ≤ room_1.cells) (hr2 : slots + 6 ≤ room_1.slots)
    (kk : ∀ (H1 : Heap) (locs1 : List Loc) (ls1 : Array Slot), Dyn s E γ α ρ o A H1 locs1 → lv_has ls1 9 (lvL b γ ρ o i) → W p l e room_1 s m args below meth c H1 locs1 (cells + 1) (slots + 6) Q (F0 m 1775 ls1 [])) : W p l e room_1 s m args below meth c H locs cells slots Q (F0 m 1129 ls []) := by
  obtain ⟨⟨hx, hb, hr, hml, hown, hlocks, hts⟩, ⟨hX, hbl, hL8⟩, ⟨hK, hKX, hZ, hl0⟩, ⟨hA, hA2, ho, hoA, hoR, hAR, hρ⟩⟩ := id hC
  obtain ⟨st, sv, n, N, tx, hi, hLI, hc, hrf, hou, hS⟩ := hD
  have hl : lv_has ls 9 [(0, .ref b), (1, .ref (γ 0)), (2, .ref (ρ 0)), (3, .ref o), (4, .int (I (i : Int)))] := hl
  obtain ⟨k, b9, ov, st', sv', n', N', tx', hi', hM1, hM2, hLI, hov, hk, hB⟩ := op_referralLeft l hl0 E γ α ρ o A hoA hρ st sv n N tx hi hLI (xs (i + 1))
  have hAo : ∀ q, (A q ∨ q = o) → s.heap.size ≤ q := fun q h9 => h9.elim (hA q) (fun e9 => e9 ▸ ho)
  refine lv_aload_n hx hb dL_law_1129 rfl (lv_lk hl rfl) ?_
  refine L_arg hC hS hl (i := i) rfl rfl 1 rfl (by omega) dL_law_1130 dL_law_1131 dL_law_1133 dL_law_1134 dL_law_1135 ?_
  refine lv_aload_n hx hb dL_law_1136 rfl (lv_lk hl rfl) ?_
  refine call_O (vx_runSW ⟨hx, hb, hml, hown, hts⟩ hM1 (vx_cwSW 3 hts (gi_S ml_L_153 st_L_referralLeft it_L cd_L_referralLeft) rfl rfl rfl (by decide +kernel) ⟨Nat.le_of_ble_eq_true rfl, Nat.le_of_ble_eq_true rfl⟩) (pX_S hK hKX ((hZ.kept hS.2.1).narrow hAo) ⟨hc, hou⟩) rfl rfl hl.1 rfl (lv_room (Nat.le_of_ble_eq_true rfl)) dL_law_1137 ⟨hr1, hr2⟩) hAo hS (fun H1 locs k1 k2 hc v hv hvk hS => ?_)
  have hrf := RPa_on _ _ hrf k1 (fun q hq h9 => k2 q hq (fun h8 => h8.elim (fun h7 => hAR q h7 h9) (fun h7 => hoR (h7 ▸ h9))))
  refine lv_istore (lv' := [(5, .int (I k)), (0, .ref b), (1, .ref (γ 0)), (2, .ref (ρ 0)), (3, .ref o), (4, .int (I (i : Int)))]) hx hb dL_law_1140 hl (by decide) rfl (fun ls hl => ?_)
  refine lv_aload_n hx hb dL_law_1142 rfl (lv_lk hl rfl) ?_
  refine L_arg hC hS hl (i := i) rfl rfl 1 rfl (by omega) dL_law_1143 dL_law_1144 dL_law_1146 dL_law_1147 dL_law_1148 ?_
  refine call_P (va_runV ⟨hx, hb, hml, hown, hts⟩ hM2 (cwV 1 hts (gi_V ml_L_155 im_X6_referralLeft sl_X6_referralLeft it_X6 cd_X6_referralLeft) rfl rfl rfl (by decide +kernel) ⟨Nat.le_of_ble_eq_true rfl, Nat.le_of_ble_eq_true rfl⟩) (pP_V hK hrf (RPa_0 _ hrf) rfl) rfl rfl hl.1 rfl (lv_room (Nat.le_of_ble_eq_true rfl)) dL_law_1149 ⟨hr1, hr2⟩) hA2 hS rfl (fun H2 locs j1 j2 hrf hS => ?_)
  have hc := CP_on _ _ hc j1 (fun q hq h9 => j2 q hq (hAR q h9))
  have hv := hv.kept (j2 o hv.lt hoR)
  refine lv_istore (lv' := [(6, .int (I b9)), (5, .int (I k)), (0, .ref b), (1, .ref (γ 0)), (2, .ref (ρ 0)), (3, .ref o), (4, .int (I (i : Int)))]) hx hb dL_law_1152 hl (by decide) rfl (fun ls hl => ?_)
  refine lv_aload_n hx hb dL_law_1154 rfl (lv_lk hl rfl) ?_
  refine call_P (A1 := noA) (va_runV ⟨hx, hb, hml, hown, hts⟩ thr_P (cwV 0 hts (gi_V ml_L_102 im_X6_thrown sl_X6_thrown it_X6 cd_X6_thrown) rfl rfl rfl (by decide +kernel) ⟨Nat.le_of_ble_eq_true rfl, Nat.le_of_ble_eq_true rfl⟩) (pP_V hK hrf (RP_0 hrf) rfl) rfl rfl hl.1 rfl (lv_room (Nat.le_of_ble_eq_true rfl)) dL_law_1155 ⟨hr1, hr2⟩) (fun _ h9 => h9.elim) hS rfl (fun H3 locs i1 i2 _ hS => ?_)
  have hc := CP_on _ _ hc i1 (fun q hq _ => i2 q hq (fun h9 => h9))
  have hrf := RP_on _ _ hrf i1 (fun q hq _ => i2 q hq (fun h9 => h9))
  have hv := hv.kept (i2 o hv.lt (fun h9 => h9))
  refine lv_iload hx hb dL_law_1158 (lv_lk hl rfl) ?_
  refine iv_icmp_eq (tgt := 1165) hx hb dL_law_1160 (by decide) (by omega) (by omega) (fun _ => ?_) (fun h9 => absurd rfl h9)
  refine lv_iload hx hb dL_law_1165 (lv_lk hl rfl) ?_
  refine iv_if_ne (tgt := 1182) hx hb dL_law_1167 (by decide) (by omega) (fun _ => ?_) (fun e0 => ?_)
  · refine lv_goto (tgt := 1775) hx hb dL_law_1182 (by decide) ?_
    exact kk _ _ _ ⟨st', sv', n', N', tx', hi', hLI, hc, ⟨_, hrf⟩, ⟨_, hv⟩, hS⟩ (lv_sub hl [2, 3, 4, 5, 6] rfl)
  · obtain rfl := (hvk e0).trans (hov e0)
    refine lv_aload_n hx hb dL_law_1170 rfl (lv_lk hl rfl) ?_
    refine iv_iconst hx hb dL_law_1171 ?_
    refine L_out hx hb hK hv dL_law_1172 ?_
    refine lv_iload hx hb dL_law_1173 (lv_lk hl rfl) ?_
    refine lv_i2l hx hb dL_law_1175 rfl ?_
    refine W.lcmp hx hb dL_law_1176 ?_
    rw [lg_cmp_self]
    refine iv_if_eq (tgt := 1182) hx hb dL_law_1177 (by decide) (by omega) (fun _ => ?_) (fun h9 => absurd rfl h9)
    refine lv_goto (tgt := 1775) hx hb dL_law_1182 (by decide) ?_
    exact kk _ _ _ ⟨st', sv', n', N', tx', hi', hLI, hc, ⟨_, hrf⟩, ⟨_, hv⟩, hS⟩ (lv_sub hl [2, 3, 4, 5, 6] rfl)
set_option maxHeartbeats 400000 in
set_option maxRecDepth 100000 in
theorem case_isOutOfDate {p : Program} {l : Launch} {e : Jvm.Env} {s : State} {m : MethodId} {args : Array Value} {below : List Frame} {meth : Method} {c : Code} {H : Heap} {locs : List Loc} {cells slots : Nat} {Q : State → Prop} {ls : Array Slot} {b L : Nat} {xs : Nat → Int32} {E : Env3} {γ α ρ : Nat → Nat} {o : Nat} {A : Nat → Prop} (hC : LawC p l s m args meth c b L xs E γ α ρ o A) (i : Nat) (hi4 : i + 4 ≤ L) (hl : lv_has ls 9 (lvL b γ ρ o i)) (hD : Dyn s E γ α ρ o A H locs) (hr1 : cells + 1 ≤ room_1.cells) (hr2 : slots + 6 ≤ room_1.slots)
    (kk : ∀ (H1 : Heap) (locs1 : List Loc) (ls1 : Array Slot), Dyn s E γ α ρ o A H1 locs1 → lv_has ls1 9 (lvL b γ ρ o i) → W p l e room_1 s m args below meth c H1 locs1 (cells + 1) (slots + 6) Q (F0 m 1775 ls1 [])) : W p l e room_1 s m args below meth c H locs cells slots Q (F0 m 1224 ls []) := by
  obtain ⟨⟨hx, hb, hr, hml, hown, hlocks, hts⟩, ⟨hX, hbl, hL8⟩, ⟨hK, hKX, hZ, hl0⟩, ⟨hA, hA2, ho, hoA, hoR, hAR, hρ⟩⟩ := id hC
  obtain ⟨st, sv, n, N, tx, hi, hLI, hc, hrf, hou, hS⟩ := hD
  have hl : lv_has ls 9 [(0, .ref b), (1, .ref (γ 0)), (2, .ref (ρ 0)), (3, .ref o), (4, .int (I (i : Int)))] := hl
  obtain ⟨k, b9, ov, st', sv', n', N', tx', hi', hM1, hM2, hLI, hov, hk, hB⟩ := op_isOutOfDate l hl0 E γ α ρ o A hoA hρ st sv n N tx hi hLI (xs (i + 1))
  have hAo : ∀ q, (A q ∨ q = o) → s.heap.size ≤ q := fun q h9 => h9.elim (hA q) (fun e9 => e9 ▸ ho)
  refine lv_aload_n hx hb dL_law_1224 rfl (lv_lk hl rfl) ?_
  refine L_arg hC hS hl (i := i) rfl rfl 1 rfl (by omega) dL_law_1225 dL_law_1226 dL_law_1228 dL_law_1229 dL_law_1230 ?_
  refine lv_aload_n hx hb dL_law_1231 rfl (lv_lk hl rfl) ?_
  refine call_O (vx_runSW ⟨hx, hb, hml, hown, hts⟩ hM1 (vx_cwSW 3 hts (gi_S ml_L_168 st_L_isOutOfDate it_L cd_L_isOutOfDate) rfl rfl rfl (by decide +kernel) ⟨Nat.le_of_ble_eq_true rfl, Nat.le_of_ble_eq_true rfl⟩) (pX_S hK hKX ((hZ.kept hS.2.1).narrow hAo) ⟨hc, hou⟩) rfl rfl hl.1 rfl (lv_room (Nat.le_of_ble_eq_true rfl)) dL_law_1232 ⟨hr1, hr2⟩) hAo hS (fun H1 locs k1 k2 hc v hv hvk hS => ?_)
  have hrf := RPa_on _ _ hrf k1 (fun q hq h9 => k2 q hq (fun h8 => h8.elim (fun h7 => hAR q h7 h9) (fun h7 => hoR (h7 ▸ h9))))
  refine lv_istore (lv' := [(5, .int (I k)), (0, .ref b), (1, .ref (γ 0)), (2, .ref (ρ 0)), (3, .ref o), (4, .int (I (i : Int)))]) hx hb dL_law_1235 hl (by decide) rfl (fun ls hl => ?_)
  refine lv_aload_n hx hb dL_law_1237 rfl (lv_lk hl rfl) ?_
  refine L_arg hC hS hl (i := i) rfl rfl 1 rfl (by omega) dL_law_1238 dL_law_1239 dL_law_1241 dL_law_1242 dL_law_1243 ?_
  refine call_P (va_runV ⟨hx, hb, hml, hown, hts⟩ hM2 (cwV 1 hts (gi_V ml_L_170 im_X6_isOutOfDate sl_X6_isOutOfDate it_X6 cd_X6_isOutOfDate) rfl rfl rfl (by decide +kernel) ⟨Nat.le_of_ble_eq_true rfl, Nat.le_of_ble_eq_true rfl⟩) (pP_V hK hrf (RPa_0 _ hrf) rfl) rfl rfl hl.1 rfl (lv_room (Nat.le_of_ble_eq_true rfl)) dL_law_1244 ⟨hr1, hr2⟩) hA2 hS rfl (fun H2 locs j1 j2 hrf hS => ?_)
  have hc := CP_on _ _ hc j1 (fun q hq h9 => j2 q hq (hAR q h9))
  have hv := hv.kept (j2 o hv.lt hoR)
  refine lv_istore (lv' := [(6, .int (I b9)), (5, .int (I k)), (0, .ref b), (1, .ref (γ 0)), (2, .ref (ρ 0)), (3, .ref o), (4, .int (I (i : Int)))]) hx hb dL_law_1247 hl (by decide) rfl (fun ls hl => ?_)
  refine lv_aload_n hx hb dL_law_1249 rfl (lv_lk hl rfl) ?_
  refine call_P (A1 := noA) (va_runV ⟨hx, hb, hml, hown, hts⟩ thr_P (cwV 0 hts (gi_V ml_L_102 im_X6_thrown sl_X6_thrown it_X6 cd_X6_thrown) rfl rfl rfl (by decide +kernel) ⟨Nat.le_of_ble_eq_true rfl, Nat.le_of_ble_eq_true rfl⟩) (pP_V hK hrf (RP_0 hrf) rfl) rfl rfl hl.1 rfl (lv_room (Nat.le_of_ble_eq_true rfl)) dL_law_1250 ⟨hr1, hr2⟩) (fun _ h9 => h9.elim) hS rfl (fun H3 locs i1 i2 _ hS => ?_)
  have hc := CP_on _ _ hc i1 (fun q hq _ => i2 q hq (fun h9 => h9))
  have hrf := RP_on _ _ hrf i1 (fun q hq _ => i2 q hq (fun h9 => h9))
  have hv := hv.kept (i2 o hv.lt (fun h9 => h9))
  refine lv_iload hx hb dL_law_1253 (lv_lk hl rfl) ?_
  refine iv_icmp_eq (tgt := 1260) hx hb dL_law_1255 (by decide) (by omega) (by omega) (fun _ => ?_) (fun h9 => absurd rfl h9)
  refine lv_iload hx hb dL_law_1260 (lv_lk hl rfl) ?_
  refine iv_if_ne (tgt := 1284) hx hb dL_law_1262 (by decide) (by omega) (fun _ => ?_) (fun e0 => ?_)
  · refine lv_goto (tgt := 1775) hx hb dL_law_1284 (by decide) ?_
    exact kk _ _ _ ⟨st', sv', n', N', tx', hi', hLI, hc, ⟨_, hrf⟩, ⟨_, hv⟩, hS⟩ (lv_sub hl [2, 3, 4, 5, 6] rfl)
  · obtain rfl := (hvk e0).trans (hov e0)
    refine lv_aload_n hx hb dL_law_1265 rfl (lv_lk hl rfl) ?_
    refine iv_iconst hx hb dL_law_1266 ?_
    refine L_out hx hb hK hv dL_law_1267 ?_
    refine lv_iload hx hb dL_law_1268 (lv_lk hl rfl) ?_
    rcases hB with rfl | rfl
    · refine iv_if_eq (tgt := 1277) hx hb dL_law_1270 (by decide) (by omega) (fun _ => ?_) (fun h9 => absurd rfl h9)
      refine lv_lconst (v := (I 0).toInt64) hx hb dL_law_1277 rfl ?_
      refine W.lcmp hx hb dL_law_1278 ?_
      rw [lg_cmp_self]
      refine iv_if_eq (tgt := 1284) hx hb dL_law_1279 (by decide) (by omega) (fun _ => ?_) (fun h9 => absurd rfl h9)
      refine lv_goto (tgt := 1775) hx hb dL_law_1284 (by decide) ?_
      exact kk _ _ _ ⟨st', sv', n', N', tx', hi', hLI, hc, ⟨_, hrf⟩, ⟨_, hv⟩, hS⟩ (lv_sub hl [2, 3, 4, 5, 6] rfl)
    · refine iv_if_eq (tgt := 1277) hx hb dL_law_1270 (by decide) (by omega) (fun h9 => absurd h9 (by decide)) (fun _ => ?_)
      refine lv_lconst (v := (I 1).toInt64) hx hb dL_law_1273 rfl ?_
      refine lv_goto (tgt := 1278) hx hb dL_law_1274 (by decide) ?_
      refine W.lcmp hx hb dL_law_1278 ?_
      rw [lg_cmp_self]
      refine iv_if_eq (tgt := 1284) hx hb dL_law_1279 (by decide) (by omega) (fun _ => ?_) (fun h9 => absurd rfl h9)
      refine lv_goto (tgt := 1775) hx hb dL_law_1284 (by decide) ?_
      exact kk _ _ _ ⟨st', sv', n', N', tx', hi', hLI, hc, ⟨_, hrf⟩, ⟨_, hv⟩, hS⟩ (lv_sub hl [2, 3, 4, 5, 6] rfl)
set_option maxHeartbeats 400000 in
set_option maxRecDepth 100000 in
theorem case_questionsTo {p : Program} {l : Launch} {e : Jvm.Env} {s : State} {m : MethodId} {args : Array Value} {below : List Frame} {meth : Method} {c : Code} {H : Heap} {locs : List Loc} {cells slots : Nat} {Q : State → Prop} {ls : Array Slot} {b L : Nat} {xs : Nat → Int32} {E : Env3} {γ α ρ : Nat → Nat} {o : Nat} {A : Nat → Prop} (hC : LawC p l s m args meth c b L xs E γ α ρ o A) (i : Nat) (hi4 : i + 4 ≤ L) (hl : lv_has ls 9 (lvL b γ ρ o i)) (hD : Dyn s E γ α ρ o A H locs) (hr1 : cells + 1 ≤ room_1.cells) (hr2 : slots + 6 ≤ room_1.slots)
    (kk : ∀ (H1 : Heap) (locs1 : List Loc) (ls1 : Array Slot), Dyn s E γ α ρ o A H1 locs1 → lv_has ls1 9 (lvL b γ ρ o i) → W p l e room_1 s m args below meth c H1 locs1 (cells + 1) (slots + 6) Q (F0 m 1775 ls1 [])) : W p l e room_1 s m args below meth c H locs cells slots Q (F0 m 1326 ls []) := by
  obtain ⟨⟨hx, hb, hr, hml, hown, hlocks, hts⟩, ⟨hX, hbl, hL8⟩, ⟨hK, hKX, hZ, hl0⟩, ⟨hA, hA2, ho, hoA, hoR, hAR, hρ⟩⟩ := id hC
  obtain ⟨st, sv, n, N, tx, hi, hLI, hc, hrf, hou, hS⟩ := hD
  have hl : lv_has ls 9 [(0, .ref b), (1, .ref (γ 0)), (2, .ref (ρ 0)), (3, .ref o), (4, .int (I (i : Int)))] := hl
  obtain ⟨k, b9, ov, st', sv', n', N', tx', hi', hM1, hM2, hLI, hov, hk, hB⟩ := op_questionsTo l hl0 E γ α ρ o A hoA hρ st sv n N tx hi hLI (xs (i + 1))
  have hAo : ∀ q, (A q ∨ q = o) → s.heap.size ≤ q := fun q h9 => h9.elim (hA q) (fun e9 => e9 ▸ ho)
  refine lv_aload_n hx hb dL_law_1326 rfl (lv_lk hl rfl) ?_
  refine L_arg hC hS hl (i := i) rfl rfl 1 rfl (by omega) dL_law_1327 dL_law_1328 dL_law_1330 dL_law_1331 dL_law_1332 ?_
  refine lv_aload_n hx hb dL_law_1333 rfl (lv_lk hl rfl) ?_
  refine call_O (vx_runSW ⟨hx, hb, hml, hown, hts⟩ hM1 (vx_cwSW 3 hts (gi_S ml_L_183 st_L_questionsTo it_L cd_L_questionsTo) rfl rfl rfl (by decide +kernel) ⟨Nat.le_of_ble_eq_true rfl, Nat.le_of_ble_eq_true rfl⟩) (pX_S hK hKX ((hZ.kept hS.2.1).narrow hAo) ⟨hc, hou⟩) rfl rfl hl.1 rfl (lv_room (Nat.le_of_ble_eq_true rfl)) dL_law_1334 ⟨hr1, hr2⟩) hAo hS (fun H1 locs k1 k2 hc v hv hvk hS => ?_)
  have hrf := RPa_on _ _ hrf k1 (fun q hq h9 => k2 q hq (fun h8 => h8.elim (fun h7 => hAR q h7 h9) (fun h7 => hoR (h7 ▸ h9))))
  refine lv_istore (lv' := [(5, .int (I k)), (0, .ref b), (1, .ref (γ 0)), (2, .ref (ρ 0)), (3, .ref o), (4, .int (I (i : Int)))]) hx hb dL_law_1337 hl (by decide) rfl (fun ls hl => ?_)
  refine lv_aload_n hx hb dL_law_1339 rfl (lv_lk hl rfl) ?_
  refine L_arg hC hS hl (i := i) rfl rfl 1 rfl (by omega) dL_law_1340 dL_law_1341 dL_law_1343 dL_law_1344 dL_law_1345 ?_
  refine call_P (va_runV ⟨hx, hb, hml, hown, hts⟩ hM2 (cwV 1 hts (gi_V ml_L_185 im_X6_questionsTo sl_X6_questionsTo it_X6 cd_X6_questionsTo) rfl rfl rfl (by decide +kernel) ⟨Nat.le_of_ble_eq_true rfl, Nat.le_of_ble_eq_true rfl⟩) (pP_V hK hrf (RPa_0 _ hrf) rfl) rfl rfl hl.1 rfl (lv_room (Nat.le_of_ble_eq_true rfl)) dL_law_1346 ⟨hr1, hr2⟩) hA2 hS rfl (fun H2 locs j1 j2 hrf hS => ?_)
  have hc := CP_on _ _ hc j1 (fun q hq h9 => j2 q hq (hAR q h9))
  have hv := hv.kept (j2 o hv.lt hoR)
  refine lv_istore (lv' := [(6, .int (I b9)), (5, .int (I k)), (0, .ref b), (1, .ref (γ 0)), (2, .ref (ρ 0)), (3, .ref o), (4, .int (I (i : Int)))]) hx hb dL_law_1349 hl (by decide) rfl (fun ls hl => ?_)
  refine lv_aload_n hx hb dL_law_1351 rfl (lv_lk hl rfl) ?_
  refine call_P (A1 := noA) (va_runV ⟨hx, hb, hml, hown, hts⟩ thr_P (cwV 0 hts (gi_V ml_L_102 im_X6_thrown sl_X6_thrown it_X6 cd_X6_thrown) rfl rfl rfl (by decide +kernel) ⟨Nat.le_of_ble_eq_true rfl, Nat.le_of_ble_eq_true rfl⟩) (pP_V hK hrf (RP_0 hrf) rfl) rfl rfl hl.1 rfl (lv_room (Nat.le_of_ble_eq_true rfl)) dL_law_1352 ⟨hr1, hr2⟩) (fun _ h9 => h9.elim) hS rfl (fun H3 locs i1 i2 _ hS => ?_)
  have hc := CP_on _ _ hc i1 (fun q hq _ => i2 q hq (fun h9 => h9))
  have hrf := RP_on _ _ hrf i1 (fun q hq _ => i2 q hq (fun h9 => h9))
  have hv := hv.kept (i2 o hv.lt (fun h9 => h9))
  refine lv_iload hx hb dL_law_1355 (lv_lk hl rfl) ?_
  refine iv_icmp_eq (tgt := 1362) hx hb dL_law_1357 (by decide) (by omega) (by omega) (fun _ => ?_) (fun h9 => absurd rfl h9)
  refine lv_iload hx hb dL_law_1362 (lv_lk hl rfl) ?_
  refine iv_if_ne (tgt := 1379) hx hb dL_law_1364 (by decide) (by omega) (fun _ => ?_) (fun e0 => ?_)
  · refine lv_goto (tgt := 1775) hx hb dL_law_1379 (by decide) ?_
    exact kk _ _ _ ⟨st', sv', n', N', tx', hi', hLI, hc, ⟨_, hrf⟩, ⟨_, hv⟩, hS⟩ (lv_sub hl [2, 3, 4, 5, 6] rfl)
  · obtain rfl := (hvk e0).trans (hov e0)
    refine lv_aload_n hx hb dL_law_1367 rfl (lv_lk hl rfl) ?_
    refine iv_iconst hx hb dL_law_1368 ?_
    refine L_out hx hb hK hv dL_law_1369 ?_
    refine lv_iload hx hb dL_law_1370 (lv_lk hl rfl) ?_
    refine lv_i2l hx hb dL_law_1372 rfl ?_
    refine W.lcmp hx hb dL_law_1373 ?_
    rw [lg_cmp_self]
    refine iv_if_eq (tgt := 1379) hx hb dL_law_1374 (by decide) (by omega) (fun _ => ?_) (fun h9 => absurd rfl h9)
    refine lv_goto (tgt := 1775) hx hb dL_law_1379 (by decide) ?_
    exact kk _ _ _ ⟨st', sv', n', N', tx', hi', hLI, hc, ⟨_, hrf⟩, ⟨_, hv⟩, hS⟩ (lv_sub hl [2, 3, 4, 5, 6] rfl)
set_option maxHeartbeats 400000 in
set_option maxRecDepth 100000 in
theorem case_wouldSolve {p : Program} {l : Launch} {e : Jvm.Env} {s : State} {m : MethodId} {args : Array Value} {below : List Frame} {meth : Method} {c : Code} {H : Heap} {locs : List Loc} {cells slots : Nat} {Q : State → Prop} {ls : Array Slot} {b L : Nat} {xs : Nat → Int32} {E : Env3} {γ α ρ : Nat → Nat} {o : Nat} {A : Nat → Prop} (hC : LawC p l s m args meth c b L xs E γ α ρ o A) (i : Nat) (hi4 : i + 4 ≤ L) (hl : lv_has ls 9 (lvL b γ ρ o i)) (hD : Dyn s E γ α ρ o A H locs) (hr1 : cells + 1 ≤ room_1.cells) (hr2 : slots + 6 ≤ room_1.slots)
    (kk : ∀ (H1 : Heap) (locs1 : List Loc) (ls1 : Array Slot), Dyn s E γ α ρ o A H1 locs1 → lv_has ls1 9 (lvL b γ ρ o i) → W p l e room_1 s m args below meth c H1 locs1 (cells + 1) (slots + 6) Q (F0 m 1775 ls1 [])) : W p l e room_1 s m args below meth c H locs cells slots Q (F0 m 1423 ls []) := by
  obtain ⟨⟨hx, hb, hr, hml, hown, hlocks, hts⟩, ⟨hX, hbl, hL8⟩, ⟨hK, hKX, hZ, hl0⟩, ⟨hA, hA2, ho, hoA, hoR, hAR, hρ⟩⟩ := id hC
  obtain ⟨st, sv, n, N, tx, hi, hLI, hc, hrf, hou, hS⟩ := hD
  have hl : lv_has ls 9 [(0, .ref b), (1, .ref (γ 0)), (2, .ref (ρ 0)), (3, .ref o), (4, .int (I (i : Int)))] := hl
  obtain ⟨k, b9, ov, st', sv', n', N', tx', hi', hM1, hM2, hLI, hov, hk, hB⟩ := op_wouldSolve l hl0 E γ α ρ o A hoA hρ st sv n N tx hi hLI (xs (i + 1))
  have hAo : ∀ q, (A q ∨ q = o) → s.heap.size ≤ q := fun q h9 => h9.elim (hA q) (fun e9 => e9 ▸ ho)
  refine lv_aload_n hx hb dL_law_1423 rfl (lv_lk hl rfl) ?_
  refine L_arg hC hS hl (i := i) rfl rfl 1 rfl (by omega) dL_law_1424 dL_law_1425 dL_law_1427 dL_law_1428 dL_law_1429 ?_
  refine lv_aload_n hx hb dL_law_1430 rfl (lv_lk hl rfl) ?_
  refine call_O (vx_runSW ⟨hx, hb, hml, hown, hts⟩ hM1 (vx_cwSW 3 hts (gi_S ml_L_191 st_L_wouldSolve it_L cd_L_wouldSolve) rfl rfl rfl (by decide +kernel) ⟨Nat.le_of_ble_eq_true rfl, Nat.le_of_ble_eq_true rfl⟩) (pX_S hK hKX ((hZ.kept hS.2.1).narrow hAo) ⟨hc, hou⟩) rfl rfl hl.1 rfl (lv_room (Nat.le_of_ble_eq_true rfl)) dL_law_1431 ⟨hr1, hr2⟩) hAo hS (fun H1 locs k1 k2 hc v hv hvk hS => ?_)
  have hrf := RPa_on _ _ hrf k1 (fun q hq h9 => k2 q hq (fun h8 => h8.elim (fun h7 => hAR q h7 h9) (fun h7 => hoR (h7 ▸ h9))))
  refine lv_istore (lv' := [(5, .int (I k)), (0, .ref b), (1, .ref (γ 0)), (2, .ref (ρ 0)), (3, .ref o), (4, .int (I (i : Int)))]) hx hb dL_law_1434 hl (by decide) rfl (fun ls hl => ?_)
  refine lv_aload_n hx hb dL_law_1436 rfl (lv_lk hl rfl) ?_
  refine L_arg hC hS hl (i := i) rfl rfl 1 rfl (by omega) dL_law_1437 dL_law_1438 dL_law_1440 dL_law_1441 dL_law_1442 ?_
  refine call_P (va_runV ⟨hx, hb, hml, hown, hts⟩ hM2 (cwV 1 hts (gi_V ml_L_193 im_X6_wouldSolve sl_X6_wouldSolve it_X6 cd_X6_wouldSolve) rfl rfl rfl (by decide +kernel) ⟨Nat.le_of_ble_eq_true rfl, Nat.le_of_ble_eq_true rfl⟩) (pP_V hK hrf (RPa_0 _ hrf) rfl) rfl rfl hl.1 rfl (lv_room (Nat.le_of_ble_eq_true rfl)) dL_law_1443 ⟨hr1, hr2⟩) hA2 hS rfl (fun H2 locs j1 j2 hrf hS => ?_)
  have hc := CP_on _ _ hc j1 (fun q hq h9 => j2 q hq (hAR q h9))
  have hv := hv.kept (j2 o hv.lt hoR)
  refine lv_istore (lv' := [(6, .int (I b9)), (5, .int (I k)), (0, .ref b), (1, .ref (γ 0)), (2, .ref (ρ 0)), (3, .ref o), (4, .int (I (i : Int)))]) hx hb dL_law_1446 hl (by decide) rfl (fun ls hl => ?_)
  refine lv_aload_n hx hb dL_law_1448 rfl (lv_lk hl rfl) ?_
  refine call_P (A1 := noA) (va_runV ⟨hx, hb, hml, hown, hts⟩ thr_P (cwV 0 hts (gi_V ml_L_102 im_X6_thrown sl_X6_thrown it_X6 cd_X6_thrown) rfl rfl rfl (by decide +kernel) ⟨Nat.le_of_ble_eq_true rfl, Nat.le_of_ble_eq_true rfl⟩) (pP_V hK hrf (RP_0 hrf) rfl) rfl rfl hl.1 rfl (lv_room (Nat.le_of_ble_eq_true rfl)) dL_law_1449 ⟨hr1, hr2⟩) (fun _ h9 => h9.elim) hS rfl (fun H3 locs i1 i2 _ hS => ?_)
  have hc := CP_on _ _ hc i1 (fun q hq _ => i2 q hq (fun h9 => h9))
  have hrf := RP_on _ _ hrf i1 (fun q hq _ => i2 q hq (fun h9 => h9))
  have hv := hv.kept (i2 o hv.lt (fun h9 => h9))
  refine lv_iload hx hb dL_law_1452 (lv_lk hl rfl) ?_
  refine iv_icmp_eq (tgt := 1459) hx hb dL_law_1454 (by decide) (by omega) (by omega) (fun _ => ?_) (fun h9 => absurd rfl h9)
  refine lv_iload hx hb dL_law_1459 (lv_lk hl rfl) ?_
  refine iv_if_ne (tgt := 1476) hx hb dL_law_1461 (by decide) (by omega) (fun _ => ?_) (fun e0 => ?_)
  · refine lv_goto (tgt := 1775) hx hb dL_law_1476 (by decide) ?_
    exact kk _ _ _ ⟨st', sv', n', N', tx', hi', hLI, hc, ⟨_, hrf⟩, ⟨_, hv⟩, hS⟩ (lv_sub hl [2, 3, 4, 5, 6] rfl)
  · obtain rfl := (hvk e0).trans (hov e0)
    refine lv_aload_n hx hb dL_law_1464 rfl (lv_lk hl rfl) ?_
    refine iv_iconst hx hb dL_law_1465 ?_
    refine L_out hx hb hK hv dL_law_1466 ?_
    refine lv_iload hx hb dL_law_1467 (lv_lk hl rfl) ?_
    refine lv_i2l hx hb dL_law_1469 rfl ?_
    refine W.lcmp hx hb dL_law_1470 ?_
    rw [lg_cmp_self]
    refine iv_if_eq (tgt := 1476) hx hb dL_law_1471 (by decide) (by omega) (fun _ => ?_) (fun h9 => absurd rfl h9)
    refine lv_goto (tgt := 1775) hx hb dL_law_1476 (by decide) ?_
    exact kk _ _ _ ⟨st', sv', n', N', tx', hi', hLI, hc, ⟨_, hrf⟩, ⟨_, hv⟩, hS⟩ (lv_sub hl [2, 3, 4, 5, 6] rfl)
set_option maxHeartbeats 400000 in
set_option maxRecDepth 100000 in
theorem case_costOf {p : Program} {l : Launch} {e : Jvm.Env} {s : State} {m : MethodId} {args : Array Value} {below : List Frame} {meth : Method} {c : Code} {H : Heap} {locs : List Loc} {cells slots : Nat} {Q : State → Prop} {ls : Array Slot} {b L : Nat} {xs : Nat → Int32} {E : Env3} {γ α ρ : Nat → Nat} {o : Nat} {A : Nat → Prop} (hC : LawC p l s m args meth c b L xs E γ α ρ o A) (i : Nat) (hi4 : i + 4 ≤ L) (hl : lv_has ls 9 (lvL b γ ρ o i)) (hD : Dyn s E γ α ρ o A H locs) (hr1 : cells + 1 ≤ room_1.cells) (hr2 : slots + 6 ≤ room_1.slots)
    (kk : ∀ (H1 : Heap) (locs1 : List Loc) (ls1 : Array Slot), Dyn s E γ α ρ o A H1 locs1 → lv_has ls1 9 (lvL b γ ρ o i) → W p l e room_1 s m args below meth c H1 locs1 (cells + 1) (slots + 6) Q (F0 m 1775 ls1 [])) : W p l e room_1 s m args below meth c H locs cells slots Q (F0 m 1479 ls []) := by
  obtain ⟨⟨hx, hb, hr, hml, hown, hlocks, hts⟩, ⟨hX, hbl, hL8⟩, ⟨hK, hKX, hZ, hl0⟩, ⟨hA, hA2, ho, hoA, hoR, hAR, hρ⟩⟩ := id hC
  obtain ⟨st, sv, n, N, tx, hi, hLI, hc, hrf, hou, hS⟩ := hD
  have hl : lv_has ls 9 [(0, .ref b), (1, .ref (γ 0)), (2, .ref (ρ 0)), (3, .ref o), (4, .int (I (i : Int)))] := hl
  obtain ⟨k, b9, ov, st', sv', n', N', tx', hi', hM1, hM2, hLI, hov, hk, hB⟩ := op_costOf l hl0 E γ α ρ o A hoA hρ st sv n N tx hi hLI (xs (i + 1))
  have hAo : ∀ q, (A q ∨ q = o) → s.heap.size ≤ q := fun q h9 => h9.elim (hA q) (fun e9 => e9 ▸ ho)
  refine lv_aload_n hx hb dL_law_1479 rfl (lv_lk hl rfl) ?_
  refine L_arg hC hS hl (i := i) rfl rfl 1 rfl (by omega) dL_law_1480 dL_law_1481 dL_law_1483 dL_law_1484 dL_law_1485 ?_
  refine lv_aload_n hx hb dL_law_1486 rfl (lv_lk hl rfl) ?_
  refine call_O (vx_runSW ⟨hx, hb, hml, hown, hts⟩ hM1 (vx_cwSW 3 hts (gi_S ml_L_194 st_L_costOf it_L cd_L_costOf) rfl rfl rfl (by decide +kernel) ⟨Nat.le_of_ble_eq_true rfl, Nat.le_of_ble_eq_true rfl⟩) (pX_S hK hKX ((hZ.kept hS.2.1).narrow hAo) ⟨hc, hou⟩) rfl rfl hl.1 rfl (lv_room (Nat.le_of_ble_eq_true rfl)) dL_law_1487 ⟨hr1, hr2⟩) hAo hS (fun H1 locs k1 k2 hc v hv hvk hS => ?_)
  have hrf := RPa_on _ _ hrf k1 (fun q hq h9 => k2 q hq (fun h8 => h8.elim (fun h7 => hAR q h7 h9) (fun h7 => hoR (h7 ▸ h9))))
  refine lv_istore (lv' := [(5, .int (I k)), (0, .ref b), (1, .ref (γ 0)), (2, .ref (ρ 0)), (3, .ref o), (4, .int (I (i : Int)))]) hx hb dL_law_1490 hl (by decide) rfl (fun ls hl => ?_)
  refine lv_aload_n hx hb dL_law_1492 rfl (lv_lk hl rfl) ?_
  refine L_arg hC hS hl (i := i) rfl rfl 1 rfl (by omega) dL_law_1493 dL_law_1494 dL_law_1496 dL_law_1497 dL_law_1498 ?_
  refine call_P (va_runV ⟨hx, hb, hml, hown, hts⟩ hM2 (cwV 1 hts (gi_V ml_L_196 im_X6_costOf sl_X6_costOf it_X6 cd_X6_costOf) rfl rfl rfl (by decide +kernel) ⟨Nat.le_of_ble_eq_true rfl, Nat.le_of_ble_eq_true rfl⟩) (pP_V hK hrf (RPa_0 _ hrf) rfl) rfl rfl hl.1 rfl (lv_room (Nat.le_of_ble_eq_true rfl)) dL_law_1499 ⟨hr1, hr2⟩) hA2 hS rfl (fun H2 locs j1 j2 hrf hS => ?_)
  have hc := CP_on _ _ hc j1 (fun q hq h9 => j2 q hq (hAR q h9))
  have hv := hv.kept (j2 o hv.lt hoR)
  refine lv_istore (lv' := [(6, .int (I b9)), (5, .int (I k)), (0, .ref b), (1, .ref (γ 0)), (2, .ref (ρ 0)), (3, .ref o), (4, .int (I (i : Int)))]) hx hb dL_law_1502 hl (by decide) rfl (fun ls hl => ?_)
  refine lv_aload_n hx hb dL_law_1504 rfl (lv_lk hl rfl) ?_
  refine call_P (A1 := noA) (va_runV ⟨hx, hb, hml, hown, hts⟩ thr_P (cwV 0 hts (gi_V ml_L_102 im_X6_thrown sl_X6_thrown it_X6 cd_X6_thrown) rfl rfl rfl (by decide +kernel) ⟨Nat.le_of_ble_eq_true rfl, Nat.le_of_ble_eq_true rfl⟩) (pP_V hK hrf (RP_0 hrf) rfl) rfl rfl hl.1 rfl (lv_room (Nat.le_of_ble_eq_true rfl)) dL_law_1505 ⟨hr1, hr2⟩) (fun _ h9 => h9.elim) hS rfl (fun H3 locs i1 i2 _ hS => ?_)
  have hc := CP_on _ _ hc i1 (fun q hq _ => i2 q hq (fun h9 => h9))
  have hrf := RP_on _ _ hrf i1 (fun q hq _ => i2 q hq (fun h9 => h9))
  have hv := hv.kept (i2 o hv.lt (fun h9 => h9))
  refine lv_iload hx hb dL_law_1508 (lv_lk hl rfl) ?_
  refine iv_icmp_eq (tgt := 1515) hx hb dL_law_1510 (by decide) (by omega) (by omega) (fun _ => ?_) (fun h9 => absurd rfl h9)
  refine lv_iload hx hb dL_law_1515 (lv_lk hl rfl) ?_
  refine iv_if_ne (tgt := 1532) hx hb dL_law_1517 (by decide) (by omega) (fun _ => ?_) (fun e0 => ?_)
  · refine lv_goto (tgt := 1775) hx hb dL_law_1532 (by decide) ?_
    exact kk _ _ _ ⟨st', sv', n', N', tx', hi', hLI, hc, ⟨_, hrf⟩, ⟨_, hv⟩, hS⟩ (lv_sub hl [2, 3, 4, 5, 6] rfl)
  · obtain rfl := (hvk e0).trans (hov e0)
    refine lv_aload_n hx hb dL_law_1520 rfl (lv_lk hl rfl) ?_
    refine iv_iconst hx hb dL_law_1521 ?_
    refine L_out hx hb hK hv dL_law_1522 ?_
    refine lv_iload hx hb dL_law_1523 (lv_lk hl rfl) ?_
    refine lv_i2l hx hb dL_law_1525 rfl ?_
    refine W.lcmp hx hb dL_law_1526 ?_
    rw [lg_cmp_self]
    refine iv_if_eq (tgt := 1532) hx hb dL_law_1527 (by decide) (by omega) (fun _ => ?_) (fun h9 => absurd rfl h9)
    refine lv_goto (tgt := 1775) hx hb dL_law_1532 (by decide) ?_
    exact kk _ _ _ ⟨st', sv', n', N', tx', hi', hLI, hc, ⟨_, hrf⟩, ⟨_, hv⟩, hS⟩ (lv_sub hl [2, 3, 4, 5, 6] rfl)
set_option maxHeartbeats 400000 in
set_option maxRecDepth 100000 in
theorem case_ticksUntilTruth {p : Program} {l : Launch} {e : Jvm.Env} {s : State} {m : MethodId} {args : Array Value} {below : List Frame} {meth : Method} {c : Code} {H : Heap} {locs : List Loc} {cells slots : Nat} {Q : State → Prop} {ls : Array Slot} {b L : Nat} {xs : Nat → Int32} {E : Env3} {γ α ρ : Nat → Nat} {o : Nat} {A : Nat → Prop} (hC : LawC p l s m args meth c b L xs E γ α ρ o A) (i : Nat) (hi4 : i + 4 ≤ L) (hl : lv_has ls 9 (lvL b γ ρ o i)) (hD : Dyn s E γ α ρ o A H locs) (hr1 : cells + 1 ≤ room_1.cells) (hr2 : slots + 6 ≤ room_1.slots)
    (kk : ∀ (H1 : Heap) (locs1 : List Loc) (ls1 : Array Slot), Dyn s E γ α ρ o A H1 locs1 → lv_has ls1 9 (lvL b γ ρ o i) → W p l e room_1 s m args below meth c H1 locs1 (cells + 1) (slots + 6) Q (F0 m 1775 ls1 [])) : W p l e room_1 s m args below meth c H locs cells slots Q (F0 m 1535 ls []) := by
  obtain ⟨⟨hx, hb, hr, hml, hown, hlocks, hts⟩, ⟨hX, hbl, hL8⟩, ⟨hK, hKX, hZ, hl0⟩, ⟨hA, hA2, ho, hoA, hoR, hAR, hρ⟩⟩ := id hC
  obtain ⟨st, sv, n, N, tx, hi, hLI, hc, hrf, hou, hS⟩ := hD
  have hl : lv_has ls 9 [(0, .ref b), (1, .ref (γ 0)), (2, .ref (ρ 0)), (3, .ref o), (4, .int (I (i : Int)))] := hl
  obtain ⟨k, b9, ov, st', sv', n', N', tx', hi', hM1, hM2, hLI, hov, hk, hB⟩ := op_ticksUntilTruth l hl0 E γ α ρ o A hoA hρ st sv n N tx hi hLI (xs (i + 1))
  have hAo : ∀ q, (A q ∨ q = o) → s.heap.size ≤ q := fun q h9 => h9.elim (hA q) (fun e9 => e9 ▸ ho)
  refine lv_aload_n hx hb dL_law_1535 rfl (lv_lk hl rfl) ?_
  refine L_arg hC hS hl (i := i) rfl rfl 1 rfl (by omega) dL_law_1536 dL_law_1537 dL_law_1539 dL_law_1540 dL_law_1541 ?_
  refine lv_aload_n hx hb dL_law_1542 rfl (lv_lk hl rfl) ?_
  refine call_O (vx_runSW ⟨hx, hb, hml, hown, hts⟩ hM1 (vx_cwSW 3 hts (gi_S ml_L_197 st_L_ticksUntilTruth it_L cd_L_ticksUntilTruth) rfl rfl rfl (by decide +kernel) ⟨Nat.le_of_ble_eq_true rfl, Nat.le_of_ble_eq_true rfl⟩) (pX_S hK hKX ((hZ.kept hS.2.1).narrow hAo) ⟨hc, hou⟩) rfl rfl hl.1 rfl (lv_room (Nat.le_of_ble_eq_true rfl)) dL_law_1543 ⟨hr1, hr2⟩) hAo hS (fun H1 locs k1 k2 hc v hv hvk hS => ?_)
  have hrf := RPa_on _ _ hrf k1 (fun q hq h9 => k2 q hq (fun h8 => h8.elim (fun h7 => hAR q h7 h9) (fun h7 => hoR (h7 ▸ h9))))
  refine lv_istore (lv' := [(5, .int (I k)), (0, .ref b), (1, .ref (γ 0)), (2, .ref (ρ 0)), (3, .ref o), (4, .int (I (i : Int)))]) hx hb dL_law_1546 hl (by decide) rfl (fun ls hl => ?_)
  refine lv_aload_n hx hb dL_law_1548 rfl (lv_lk hl rfl) ?_
  refine L_arg hC hS hl (i := i) rfl rfl 1 rfl (by omega) dL_law_1549 dL_law_1550 dL_law_1552 dL_law_1553 dL_law_1554 ?_
  refine call_P (va_runV ⟨hx, hb, hml, hown, hts⟩ hM2 (cwV 1 hts (gi_V ml_L_199 im_X6_ticksUntilTruth sl_X6_ticksUntilTruth it_X6 cd_X6_ticksUntilTruth) rfl rfl rfl (by decide +kernel) ⟨Nat.le_of_ble_eq_true rfl, Nat.le_of_ble_eq_true rfl⟩) (pP_V hK hrf (RPa_0 _ hrf) rfl) rfl rfl hl.1 rfl (lv_room (Nat.le_of_ble_eq_true rfl)) dL_law_1555 ⟨hr1, hr2⟩) hA2 hS rfl (fun H2 locs j1 j2 hrf hS => ?_)
  have hc := CP_on _ _ hc j1 (fun q hq h9 => j2 q hq (hAR q h9))
  have hv := hv.kept (j2 o hv.lt hoR)
  refine lv_istore (lv' := [(6, .int (I b9)), (5, .int (I k)), (0, .ref b), (1, .ref (γ 0)), (2, .ref (ρ 0)), (3, .ref o), (4, .int (I (i : Int)))]) hx hb dL_law_1558 hl (by decide) rfl (fun ls hl => ?_)
  refine lv_aload_n hx hb dL_law_1560 rfl (lv_lk hl rfl) ?_
  refine call_P (A1 := noA) (va_runV ⟨hx, hb, hml, hown, hts⟩ thr_P (cwV 0 hts (gi_V ml_L_102 im_X6_thrown sl_X6_thrown it_X6 cd_X6_thrown) rfl rfl rfl (by decide +kernel) ⟨Nat.le_of_ble_eq_true rfl, Nat.le_of_ble_eq_true rfl⟩) (pP_V hK hrf (RP_0 hrf) rfl) rfl rfl hl.1 rfl (lv_room (Nat.le_of_ble_eq_true rfl)) dL_law_1561 ⟨hr1, hr2⟩) (fun _ h9 => h9.elim) hS rfl (fun H3 locs i1 i2 _ hS => ?_)
  have hc := CP_on _ _ hc i1 (fun q hq _ => i2 q hq (fun h9 => h9))
  have hrf := RP_on _ _ hrf i1 (fun q hq _ => i2 q hq (fun h9 => h9))
  have hv := hv.kept (i2 o hv.lt (fun h9 => h9))
  refine lv_iload hx hb dL_law_1564 (lv_lk hl rfl) ?_
  refine iv_icmp_eq (tgt := 1571) hx hb dL_law_1566 (by decide) (by omega) (by omega) (fun _ => ?_) (fun h9 => absurd rfl h9)
  refine lv_iload hx hb dL_law_1571 (lv_lk hl rfl) ?_
  refine iv_if_ne (tgt := 1588) hx hb dL_law_1573 (by decide) (by omega) (fun _ => ?_) (fun e0 => ?_)
  · refine lv_goto (tgt := 1775) hx hb dL_law_1588 (by decide) ?_
    exact kk _ _ _ ⟨st', sv', n', N', tx', hi', hLI, hc, ⟨_, hrf⟩, ⟨_, hv⟩, hS⟩ (lv_sub hl [2, 3, 4, 5, 6] rfl)
  · obtain rfl := (hvk e0).trans (hov e0)
    refine lv_aload_n hx hb dL_law_1576 rfl (lv_lk hl rfl) ?_
    refine iv_iconst hx hb dL_law_1577 ?_
    refine L_out hx hb hK hv dL_law_1578 ?_
    refine lv_iload hx hb dL_law_1579 (lv_lk hl rfl) ?_
    refine lv_i2l hx hb dL_law_1581 rfl ?_
    refine W.lcmp hx hb dL_law_1582 ?_
    rw [lg_cmp_self]
    refine iv_if_eq (tgt := 1588) hx hb dL_law_1583 (by decide) (by omega) (fun _ => ?_) (fun h9 => absurd rfl h9)
    refine lv_goto (tgt := 1775) hx hb dL_law_1588 (by decide) ?_
    exact kk _ _ _ ⟨st', sv', n', N', tx', hi', hLI, hc, ⟨_, hrf⟩, ⟨_, hv⟩, hS⟩ (lv_sub hl [2, 3, 4, 5, 6] rfl)
set_option maxHeartbeats 400000 in
set_option maxRecDepth 100000 in
theorem case_append {p : Program} {l : Launch} {e : Jvm.Env} {s : State} {m : MethodId} {args : Array Value} {below : List Frame} {meth : Method} {c : Code} {H : Heap} {locs : List Loc} {cells slots : Nat} {Q : State → Prop} {ls : Array Slot} {b L : Nat} {xs : Nat → Int32} {E : Env3} {γ α ρ : Nat → Nat} {o : Nat} {A : Nat → Prop} (hC : LawC p l s m args meth c b L xs E γ α ρ o A) (i : Nat) (hi4 : i + 4 ≤ L) (hl : lv_has ls 9 (lvL b γ ρ o i)) (hD : Dyn s E γ α ρ o A H locs) (hr1 : cells + 1 ≤ room_1.cells) (hr2 : slots + 6 ≤ room_1.slots)
    (kk : ∀ (H1 : Heap) (locs1 : List Loc) (ls1 : Array Slot), Dyn s E γ α ρ o A H1 locs1 → lv_has ls1 9 (lvL b γ ρ o i) → W p l e room_1 s m args below meth c H1 locs1 (cells + 1) (slots + 6) Q (F0 m 1775 ls1 [])) : W p l e room_1 s m args below meth c H locs cells slots Q (F0 m 1591 ls []) := by
  obtain ⟨⟨hx, hb, hr, hml, hown, hlocks, hts⟩, ⟨hX, hbl, hL8⟩, ⟨hK, hKX, hZ, hl0⟩, ⟨hA, hA2, ho, hoA, hoR, hAR, hρ⟩⟩ := id hC
  obtain ⟨st, sv, n, N, tx, hi, hLI, hc, hrf, hou, hS⟩ := hD
  have hl : lv_has ls 9 [(0, .ref b), (1, .ref (γ 0)), (2, .ref (ρ 0)), (3, .ref o), (4, .int (I (i : Int)))] := hl
  obtain ⟨k, b9, ov, st', sv', n', N', tx', hi', hM1, hM2, hLI, hov, hk, hB⟩ := op_append l hl0 E γ α ρ o A hoA hρ st sv n N tx hi hLI (xs (i + 1))
  have hAo : ∀ q, (A q ∨ q = o) → s.heap.size ≤ q := fun q h9 => h9.elim (hA q) (fun e9 => e9 ▸ ho)
  refine lv_aload_n hx hb dL_law_1591 rfl (lv_lk hl rfl) ?_
  refine L_arg hC hS hl (i := i) rfl rfl 1 rfl (by omega) dL_law_1592 dL_law_1593 dL_law_1595 dL_law_1596 dL_law_1597 ?_
  refine lv_aload_n hx hb dL_law_1598 rfl (lv_lk hl rfl) ?_
  refine call_O (vx_runSW ⟨hx, hb, hml, hown, hts⟩ hM1 (vx_cwSW 3 hts (gi_S ml_L_200 st_L_append it_L cd_L_append) rfl rfl rfl (by decide +kernel) ⟨Nat.le_of_ble_eq_true rfl, Nat.le_of_ble_eq_true rfl⟩) (pX_S hK hKX ((hZ.kept hS.2.1).narrow hAo) ⟨hc, hou⟩) rfl rfl hl.1 rfl (lv_room (Nat.le_of_ble_eq_true rfl)) dL_law_1599 ⟨hr1, hr2⟩) hAo hS (fun H1 locs k1 k2 hc v hv hvk hS => ?_)
  have hrf := RPa_on _ _ hrf k1 (fun q hq h9 => k2 q hq (fun h8 => h8.elim (fun h7 => hAR q h7 h9) (fun h7 => hoR (h7 ▸ h9))))
  refine lv_istore (lv' := [(5, .int (I k)), (0, .ref b), (1, .ref (γ 0)), (2, .ref (ρ 0)), (3, .ref o), (4, .int (I (i : Int)))]) hx hb dL_law_1602 hl (by decide) rfl (fun ls hl => ?_)
  refine lv_aload_n hx hb dL_law_1604 rfl (lv_lk hl rfl) ?_
  refine L_arg hC hS hl (i := i) rfl rfl 1 rfl (by omega) dL_law_1605 dL_law_1606 dL_law_1608 dL_law_1609 dL_law_1610 ?_
  refine call_P (va_runV ⟨hx, hb, hml, hown, hts⟩ hM2 (cwV 1 hts (gi_V ml_L_202 im_X6_append sl_X6_append it_X6 cd_X6_append) rfl rfl rfl (by decide +kernel) ⟨Nat.le_of_ble_eq_true rfl, Nat.le_of_ble_eq_true rfl⟩) (pP_V hK hrf (RPa_0 _ hrf) rfl) rfl rfl hl.1 rfl (lv_room (Nat.le_of_ble_eq_true rfl)) dL_law_1611 ⟨hr1, hr2⟩) hA2 hS rfl (fun H2 locs j1 j2 hrf hS => ?_)
  have hc := CP_on _ _ hc j1 (fun q hq h9 => j2 q hq (hAR q h9))
  have hv := hv.kept (j2 o hv.lt hoR)
  refine lv_istore (lv' := [(6, .int (I b9)), (5, .int (I k)), (0, .ref b), (1, .ref (γ 0)), (2, .ref (ρ 0)), (3, .ref o), (4, .int (I (i : Int)))]) hx hb dL_law_1614 hl (by decide) rfl (fun ls hl => ?_)
  refine lv_aload_n hx hb dL_law_1616 rfl (lv_lk hl rfl) ?_
  refine call_P (A1 := noA) (va_runV ⟨hx, hb, hml, hown, hts⟩ thr_P (cwV 0 hts (gi_V ml_L_102 im_X6_thrown sl_X6_thrown it_X6 cd_X6_thrown) rfl rfl rfl (by decide +kernel) ⟨Nat.le_of_ble_eq_true rfl, Nat.le_of_ble_eq_true rfl⟩) (pP_V hK hrf (RP_0 hrf) rfl) rfl rfl hl.1 rfl (lv_room (Nat.le_of_ble_eq_true rfl)) dL_law_1617 ⟨hr1, hr2⟩) (fun _ h9 => h9.elim) hS rfl (fun H3 locs i1 i2 _ hS => ?_)
  have hc := CP_on _ _ hc i1 (fun q hq _ => i2 q hq (fun h9 => h9))
  have hrf := RP_on _ _ hrf i1 (fun q hq _ => i2 q hq (fun h9 => h9))
  have hv := hv.kept (i2 o hv.lt (fun h9 => h9))
  refine lv_iload hx hb dL_law_1620 (lv_lk hl rfl) ?_
  refine iv_icmp_eq (tgt := 1627) hx hb dL_law_1622 (by decide) (by omega) (by omega) (fun _ => ?_) (fun h9 => absurd rfl h9)
  refine lv_iload hx hb dL_law_1627 (lv_lk hl rfl) ?_
  refine iv_if_ne (tgt := 1644) hx hb dL_law_1629 (by decide) (by omega) (fun _ => ?_) (fun e0 => ?_)
  · refine lv_goto (tgt := 1775) hx hb dL_law_1644 (by decide) ?_
    exact kk _ _ _ ⟨st', sv', n', N', tx', hi', hLI, hc, ⟨_, hrf⟩, ⟨_, hv⟩, hS⟩ (lv_sub hl [2, 3, 4, 5, 6] rfl)
  · obtain rfl := (hvk e0).trans (hov e0)
    refine lv_aload_n hx hb dL_law_1632 rfl (lv_lk hl rfl) ?_
    refine iv_iconst hx hb dL_law_1633 ?_
    refine L_out hx hb hK hv dL_law_1634 ?_
    refine lv_iload hx hb dL_law_1635 (lv_lk hl rfl) ?_
    refine lv_i2l hx hb dL_law_1637 rfl ?_
    refine W.lcmp hx hb dL_law_1638 ?_
    rw [lg_cmp_self]
    refine iv_if_eq (tgt := 1644) hx hb dL_law_1639 (by decide) (by omega) (fun _ => ?_) (fun h9 => absurd rfl h9)
    refine lv_goto (tgt := 1775) hx hb dL_law_1644 (by decide) ?_
    exact kk _ _ _ ⟨st', sv', n', N', tx', hi', hLI, hc, ⟨_, hrf⟩, ⟨_, hv⟩, hS⟩ (lv_sub hl [2, 3, 4, 5, 6] rfl)
set_option maxHeartbeats 400000 in
set_option maxRecDepth 100000 in
theorem case_runActs {p : Program} {l : Launch} {e : Jvm.Env} {s : State} {m : MethodId} {args : Array Value} {below : List Frame} {meth : Method} {c : Code} {H : Heap} {locs : List Loc} {cells slots : Nat} {Q : State → Prop} {ls : Array Slot} {b L : Nat} {xs : Nat → Int32} {E : Env3} {γ α ρ : Nat → Nat} {o : Nat} {A : Nat → Prop} (hC : LawC p l s m args meth c b L xs E γ α ρ o A) (i : Nat) (hi4 : i + 4 ≤ L) (hl : lv_has ls 9 (lvL b γ ρ o i)) (hD : Dyn s E γ α ρ o A H locs) (hr1 : cells + 1 ≤ room_1.cells) (hr2 : slots + 6 ≤ room_1.slots)
    (kk : ∀ (H1 : Heap) (locs1 : List Loc) (ls1 : Array Slot), Dyn s E γ α ρ o A H1 locs1 → lv_has ls1 9 (lvL b γ ρ o i) → W p l e room_1 s m args below meth c H1 locs1 (cells + 1) (slots + 6) Q (F0 m 1775 ls1 [])) : W p l e room_1 s m args below meth c H locs cells slots Q (F0 m 1673 ls []) := by
  obtain ⟨⟨hx, hb, hr, hml, hown, hlocks, hts⟩, ⟨hX, hbl, hL8⟩, ⟨hK, hKX, hZ, hl0⟩, ⟨hA, hA2, ho, hoA, hoR, hAR, hρ⟩⟩ := id hC
  obtain ⟨st, sv, n, N, tx, hi, hLI, hc, hrf, hou, hS⟩ := hD
  have hl : lv_has ls 9 [(0, .ref b), (1, .ref (γ 0)), (2, .ref (ρ 0)), (3, .ref o), (4, .int (I (i : Int)))] := hl
  obtain ⟨k, b9, ov, st', sv', n', N', tx', hi', hM1, hM2, hLI, hov, hk, hB⟩ := op_runActs l hl0 E γ α ρ o A hoA hρ st sv n N tx hi hLI 
  have hAo : ∀ q, (A q ∨ q = o) → s.heap.size ≤ q := fun q h9 => h9.elim (hA q) (fun e9 => e9 ▸ ho)
  refine lv_aload_n hx hb dL_law_1673 rfl (lv_lk hl rfl) ?_
  refine lv_aload_n hx hb dL_law_1674 rfl (lv_lk hl rfl) ?_
  refine call_O (vx_runSW ⟨hx, hb, hml, hown, hts⟩ hM1 (vx_cwSW 2 hts (gi_S ml_L_211 st_L_runActs it_L cd_L_runActs) rfl rfl rfl (by decide +kernel) ⟨Nat.le_of_ble_eq_true rfl, Nat.le_of_ble_eq_true rfl⟩) (pX_S hK hKX ((hZ.kept hS.2.1).narrow hAo) ⟨hc, hou⟩) rfl rfl hl.1 rfl (lv_room (Nat.le_of_ble_eq_true rfl)) dL_law_1675 ⟨hr1, hr2⟩) hAo hS (fun H1 locs k1 k2 hc v hv hvk hS => ?_)
  have hrf := RPa_on _ _ hrf k1 (fun q hq h9 => k2 q hq (fun h8 => h8.elim (fun h7 => hAR q h7 h9) (fun h7 => hoR (h7 ▸ h9))))
  refine lv_istore (lv' := [(5, .int (I k)), (0, .ref b), (1, .ref (γ 0)), (2, .ref (ρ 0)), (3, .ref o), (4, .int (I (i : Int)))]) hx hb dL_law_1678 hl (by decide) rfl (fun ls hl => ?_)
  refine lv_aload_n hx hb dL_law_1680 rfl (lv_lk hl rfl) ?_
  refine call_P (va_runV ⟨hx, hb, hml, hown, hts⟩ hM2 (cwV 0 hts (gi_V ml_L_214 im_X6_runActs sl_X6_runActs it_X6 cd_X6_runActs) rfl rfl rfl (by decide +kernel) ⟨Nat.le_of_ble_eq_true rfl, Nat.le_of_ble_eq_true rfl⟩) (pP_V hK hrf (RPa_0 _ hrf) rfl) rfl rfl hl.1 rfl (lv_room (Nat.le_of_ble_eq_true rfl)) dL_law_1681 ⟨hr1, hr2⟩) hA2 hS rfl (fun H2 locs j1 j2 hrf hS => ?_)
  have hc := CP_on _ _ hc j1 (fun q hq h9 => j2 q hq (hAR q h9))
  have hv := hv.kept (j2 o hv.lt hoR)
  refine lv_istore (lv' := [(6, .int (I b9)), (5, .int (I k)), (0, .ref b), (1, .ref (γ 0)), (2, .ref (ρ 0)), (3, .ref o), (4, .int (I (i : Int)))]) hx hb dL_law_1684 hl (by decide) rfl (fun ls hl => ?_)
  refine lv_aload_n hx hb dL_law_1686 rfl (lv_lk hl rfl) ?_
  refine call_P (A1 := noA) (va_runV ⟨hx, hb, hml, hown, hts⟩ thr_P (cwV 0 hts (gi_V ml_L_102 im_X6_thrown sl_X6_thrown it_X6 cd_X6_thrown) rfl rfl rfl (by decide +kernel) ⟨Nat.le_of_ble_eq_true rfl, Nat.le_of_ble_eq_true rfl⟩) (pP_V hK hrf (RP_0 hrf) rfl) rfl rfl hl.1 rfl (lv_room (Nat.le_of_ble_eq_true rfl)) dL_law_1687 ⟨hr1, hr2⟩) (fun _ h9 => h9.elim) hS rfl (fun H3 locs i1 i2 _ hS => ?_)
  have hc := CP_on _ _ hc i1 (fun q hq _ => i2 q hq (fun h9 => h9))
  have hrf := RP_on _ _ hrf i1 (fun q hq _ => i2 q hq (fun h9 => h9))
  have hv := hv.kept (i2 o hv.lt (fun h9 => h9))
  refine lv_iload hx hb dL_law_1690 (lv_lk hl rfl) ?_
  refine iv_icmp_eq (tgt := 1697) hx hb dL_law_1692 (by decide) (by omega) (by omega) (fun _ => ?_) (fun h9 => absurd rfl h9)
  refine lv_iload hx hb dL_law_1697 (lv_lk hl rfl) ?_
  refine iv_if_ne (tgt := 1714) hx hb dL_law_1699 (by decide) (by omega) (fun _ => ?_) (fun e0 => ?_)
  · refine lv_goto (tgt := 1775) hx hb dL_law_1714 (by decide) ?_
    exact kk _ _ _ ⟨st', sv', n', N', tx', hi', hLI, hc, ⟨_, hrf⟩, ⟨_, hv⟩, hS⟩ (lv_sub hl [2, 3, 4, 5, 6] rfl)
  · obtain rfl := (hvk e0).trans (hov e0)
    refine lv_aload_n hx hb dL_law_1702 rfl (lv_lk hl rfl) ?_
    refine iv_iconst hx hb dL_law_1703 ?_
    refine L_out hx hb hK hv dL_law_1704 ?_
    refine lv_iload hx hb dL_law_1705 (lv_lk hl rfl) ?_
    refine lv_i2l hx hb dL_law_1707 rfl ?_
    refine W.lcmp hx hb dL_law_1708 ?_
    rw [lg_cmp_self]
    refine iv_if_eq (tgt := 1714) hx hb dL_law_1709 (by decide) (by omega) (fun _ => ?_) (fun h9 => absurd rfl h9)
    refine lv_goto (tgt := 1775) hx hb dL_law_1714 (by decide) ?_
    exact kk _ _ _ ⟨st', sv', n', N', tx', hi', hLI, hc, ⟨_, hrf⟩, ⟨_, hv⟩, hS⟩ (lv_sub hl [2, 3, 4, 5, 6] rfl)
set_option maxHeartbeats 400000 in
set_option maxRecDepth 100000 in
theorem case_undo {p : Program} {l : Launch} {e : Jvm.Env} {s : State} {m : MethodId} {args : Array Value} {below : List Frame} {meth : Method} {c : Code} {H : Heap} {locs : List Loc} {cells slots : Nat} {Q : State → Prop} {ls : Array Slot} {b L : Nat} {xs : Nat → Int32} {E : Env3} {γ α ρ : Nat → Nat} {o : Nat} {A : Nat → Prop} (hC : LawC p l s m args meth c b L xs E γ α ρ o A) (i : Nat) (hi4 : i + 4 ≤ L) (hl : lv_has ls 9 (lvL b γ ρ o i)) (hD : Dyn s E γ α ρ o A H locs) (hr1 : cells + 1 ≤ room_1.cells) (hr2 : slots + 6 ≤ room_1.slots)
    (kk : ∀ (H1 : Heap) (locs1 : List Loc) (ls1 : Array Slot), Dyn s E γ α ρ o A H1 locs1 → lv_has ls1 9 (lvL b γ ρ o i) → W p l e room_1 s m args below meth c H1 locs1 (cells + 1) (slots + 6) Q (F0 m 1775 ls1 [])) : W p l e room_1 s m args below meth c H locs cells slots Q (F0 m 1717 ls []) := by
  obtain ⟨⟨hx, hb, hr, hml, hown, hlocks, hts⟩, ⟨hX, hbl, hL8⟩, ⟨hK, hKX, hZ, hl0⟩, ⟨hA, hA2, ho, hoA, hoR, hAR, hρ⟩⟩ := id hC
  obtain ⟨st, sv, n, N, tx, hi, hLI, hc, hrf, hou, hS⟩ := hD
  have hl : lv_has ls 9 [(0, .ref b), (1, .ref (γ 0)), (2, .ref (ρ 0)), (3, .ref o), (4, .int (I (i : Int)))] := hl
  obtain ⟨k, b9, ov, st', sv', n', N', tx', hi', hM1, hM2, hLI, hov, hk, hB⟩ := op_undo l hl0 E γ α ρ o A hoA hρ st sv n N tx hi hLI 
  have hAo : ∀ q, (A q ∨ q = o) → s.heap.size ≤ q := fun q h9 => h9.elim (hA q) (fun e9 => e9 ▸ ho)
  refine lv_aload_n hx hb dL_law_1717 rfl (lv_lk hl rfl) ?_
  refine lv_aload_n hx hb dL_law_1718 rfl (lv_lk hl rfl) ?_
  refine call_O (vx_runSW ⟨hx, hb, hml, hown, hts⟩ hM1 (vx_cwSW 2 hts (gi_S ml_L_215 st_L_undo it_L cd_L_undo) rfl rfl rfl (by decide +kernel) ⟨Nat.le_of_ble_eq_true rfl, Nat.le_of_ble_eq_true rfl⟩) (pX_S hK hKX ((hZ.kept hS.2.1).narrow hAo) ⟨hc, hou⟩) rfl rfl hl.1 rfl (lv_room (Nat.le_of_ble_eq_true rfl)) dL_law_1719 ⟨hr1, hr2⟩) hAo hS (fun H1 locs k1 k2 hc v hv hvk hS => ?_)
  have hrf := RPa_on _ _ hrf k1 (fun q hq h9 => k2 q hq (fun h8 => h8.elim (fun h7 => hAR q h7 h9) (fun h7 => hoR (h7 ▸ h9))))
  refine lv_istore (lv' := [(5, .int (I k)), (0, .ref b), (1, .ref (γ 0)), (2, .ref (ρ 0)), (3, .ref o), (4, .int (I (i : Int)))]) hx hb dL_law_1722 hl (by decide) rfl (fun ls hl => ?_)
  refine lv_aload_n hx hb dL_law_1724 rfl (lv_lk hl rfl) ?_
  refine call_P (va_runV ⟨hx, hb, hml, hown, hts⟩ hM2 (cwV 0 hts (gi_V ml_L_217 im_X6_undo sl_X6_undo it_X6 cd_X6_undo) rfl rfl rfl (by decide +kernel) ⟨Nat.le_of_ble_eq_true rfl, Nat.le_of_ble_eq_true rfl⟩) (pP_V hK hrf (RPa_0 _ hrf) rfl) rfl rfl hl.1 rfl (lv_room (Nat.le_of_ble_eq_true rfl)) dL_law_1725 ⟨hr1, hr2⟩) hA2 hS rfl (fun H2 locs j1 j2 hrf hS => ?_)
  have hc := CP_on _ _ hc j1 (fun q hq h9 => j2 q hq (hAR q h9))
  have hv := hv.kept (j2 o hv.lt hoR)
  refine lv_istore (lv' := [(6, .int (I b9)), (5, .int (I k)), (0, .ref b), (1, .ref (γ 0)), (2, .ref (ρ 0)), (3, .ref o), (4, .int (I (i : Int)))]) hx hb dL_law_1728 hl (by decide) rfl (fun ls hl => ?_)
  refine lv_aload_n hx hb dL_law_1730 rfl (lv_lk hl rfl) ?_
  refine call_P (A1 := noA) (va_runV ⟨hx, hb, hml, hown, hts⟩ thr_P (cwV 0 hts (gi_V ml_L_102 im_X6_thrown sl_X6_thrown it_X6 cd_X6_thrown) rfl rfl rfl (by decide +kernel) ⟨Nat.le_of_ble_eq_true rfl, Nat.le_of_ble_eq_true rfl⟩) (pP_V hK hrf (RP_0 hrf) rfl) rfl rfl hl.1 rfl (lv_room (Nat.le_of_ble_eq_true rfl)) dL_law_1731 ⟨hr1, hr2⟩) (fun _ h9 => h9.elim) hS rfl (fun H3 locs i1 i2 _ hS => ?_)
  have hc := CP_on _ _ hc i1 (fun q hq _ => i2 q hq (fun h9 => h9))
  have hrf := RP_on _ _ hrf i1 (fun q hq _ => i2 q hq (fun h9 => h9))
  have hv := hv.kept (i2 o hv.lt (fun h9 => h9))
  refine lv_iload hx hb dL_law_1734 (lv_lk hl rfl) ?_
  refine iv_icmp_eq (tgt := 1741) hx hb dL_law_1736 (by decide) (by omega) (by omega) (fun _ => ?_) (fun h9 => absurd rfl h9)
  refine lv_iload hx hb dL_law_1741 (lv_lk hl rfl) ?_
  refine iv_if_ne (tgt := 1758) hx hb dL_law_1743 (by decide) (by omega) (fun _ => ?_) (fun e0 => ?_)
  · refine lv_goto (tgt := 1775) hx hb dL_law_1758 (by decide) ?_
    exact kk _ _ _ ⟨st', sv', n', N', tx', hi', hLI, hc, ⟨_, hrf⟩, ⟨_, hv⟩, hS⟩ (lv_sub hl [2, 3, 4, 5, 6] rfl)
  · obtain rfl := (hvk e0).trans (hov e0)
    refine lv_aload_n hx hb dL_law_1746 rfl (lv_lk hl rfl) ?_
    refine iv_iconst hx hb dL_law_1747 ?_
    refine L_out hx hb hK hv dL_law_1748 ?_
    refine lv_iload hx hb dL_law_1749 (lv_lk hl rfl) ?_
    refine lv_i2l hx hb dL_law_1751 rfl ?_
    refine W.lcmp hx hb dL_law_1752 ?_
    rw [lg_cmp_self]
    refine iv_if_eq (tgt := 1758) hx hb dL_law_1753 (by decide) (by omega) (fun _ => ?_) (fun h9 => absurd rfl h9)
    refine lv_goto (tgt := 1775) hx hb dL_law_1758 (by decide) ?_
    exact kk _ _ _ ⟨st', sv', n', N', tx', hi', hLI, hc, ⟨_, hrf⟩, ⟨_, hv⟩, hS⟩ (lv_sub hl [2, 3, 4, 5, 6] rfl)
