/-! the law: its acts, one by one; written by law7.py -/
theorem take_0 {T : Int} {st : S} (h : IB T st) {r : Nat} (hr : r < 36) : take st r 0 = st 0 := by
  by_cases c : st (36 + 6 * r + 3) = 0
  · rw [take_pos c]
    unfold asks
    rw [hold_eq _ _ _ hr (by omega), up_ne _ _ (by omega), up_ne _ _ (by omega), up_ne _ _ (by omega), up_ne _ _ (by omega), costs_ne (by omega) (by omega)]
    exact (come_all 6 h (z := r / 6) (by omega)).2 0 (by omega) (by omega) (fun p hp => by omega)
  · rw [take_neg c, up_ne _ _ (by omega)]
theorem solves_0 {T : Int} : ∀ (n : Nat) {st : S} (_ : IB T st) {r : Nat} (_ : r < 36), (solvesF n st r).1 0 = st 0
  | 0, _, _, _, _ => rfl
  | n + 1, st, h, r, hr => by
    have hb := IB_take h hr
    unfold solvesF
    split
    · rename_i hc
      rw [solves_0 n hb (IB_next hb hr hc).2, take_0 h hr]
    · exact take_0 h hr
theorem passes_t (st : S) (t : Int) : passes st t 0 = st 0 + t := by
  show iter passR 36 (iter passZ 6 (up st 0 (st 0 + t))) 0 = _
  rw [iterR_lt (by decide) (by decide), iterZ_ge 6 (Nat.le_refl _) 0 (Or.inl rfl), up_eq]
theorem LR_forg {st q z r a mm ee : S} (h : LR st q z r a mm ee) {k : Nat} (hk : k < 36) : LR (forg st k) (up q 5 (q 5 + 1)) z r a (up mm k 0) ee := by
  have h1 : LR (forg3 st k) q z r a (up mm k 0) ee := LR_m h hk rfl (fun _ _ => rfl) (fun h9 => absurd rfl h9)
  exact LR_q h1 (i := 5) (by omega) (by rw [h1.1 5 (by omega)])
set_option maxHeartbeats 2000000 in
set_option maxRecDepth 100000 in
theorem case_answer {p : Program} {l : Launch} {e : Jvm.Env} {s : State} {m : MethodId} {args : Array Value} {below : List Frame} {meth : Method} {c : Code} {H : Heap} {locs : List Loc} {cells slots : Nat} {Q : State → Prop} {ls : Array Slot} {b L : Nat} {xs : Nat → Int32} {E : Env3} {γ α β : Nat → Nat} {A : Nat → Prop} (hC : LawC p l s m args meth c b L xs E γ α β A) (t : Nat) (ht : t < 50) {st : S} {sv : Nat → S} {n : Nat} {q z r a mm ee : S} (hLI : LI9 st n t) (hL : LR st q z r a mm ee) (hc : CP0 E γ α A st sv n H) (hP : va_P E.1 vwCl (lwW E β q z r a mm ee) H) (hS : va_S (fun q => s.heap.size ≤ q) s.heap H locs) {x y : Int32} {k : Nat} (hk : k < 36) {u : Int} (hu : 1 ≤ u ∧ u ≤ 99)
    (hl : lv_has ls 17 [(9, .int x), (10, .int y), (12, .int (I (k : Int))), (13, .int (I u)), (0, .ref b), (1, .ref (γ 0)), (2, .ref (β 0)), (3, .ref (β 1)), (4, .ref (β 2)), (5, .ref (β 3)), (6, .ref (β 4)), (7, .ref (β 5)), (8, .int (I (t : Int)))]) (hr1 : cells + 1633 ≤ room_1.cells) (hr2 : slots + 44070 ≤ room_1.slots)
    (kk : ∀ (H1 : Heap) (locs1 : List Loc) (ls1 : Array Slot), DynP s E γ α β A (t + 1) H1 locs1 → lv_has ls1 17 (lvT b γ β t) → W p l e room_1 s m args below meth c H1 locs1 (cells + 1633) (slots + 44070) Q (F0 m 738 ls1 [])) : W p l e room_1 s m args below meth c H locs cells slots Q (F0 m 200 ls []) := by
  obtain ⟨⟨hx, hb, hr, hml, hown, hlocks, hts⟩, ⟨hX, hbl, hL8⟩, ⟨hK, hKX, hZ, hl0⟩, ⟨hA, hA2, hAB, hβ⟩⟩ := id hC
  obtain ⟨hn, hI, hT, hAC, ht0⟩ := id hLI
  have hDn : ∀ q z r a mm ee : S, va_D (fun q => s.heap.size ≤ q) (lwW E β q z r a mm ee) := fun _ _ _ _ _ _ => (D_of_dR hβ rfl).weaken (fun _ _ _ h => hA2 _ (adB_in.mp h))
  have hrT := eT_0 hL hI hk
  have hmM := eM_0 hL hI hk
  have hb1 := (hI.2.2.2 k hk).1
  have hb2 := (hI.2.2.2 k hk).2
  unfold triT at hb1
  unfold triM at hb2
  have hTb := hI.1
  refine lv_iload hx hb dL_law_200 (lv_lk hl rfl) ?_
  refine iv_bipush hx hb dL_law_202 (by decide +kernel) ?_
  refine lv_ishr hx hb dL_law_204 ?_
  refine iv_bipush hx hb dL_law_205 (by decide +kernel) ?_
  refine iv_eq (((100 : Nat) : Int)) rfl ?_
  refine call_E (va_runS ⟨hx, hb, hml, hown, hts⟩ (m_L_low l E _ 100 (by omega)) (va_cwS 2 hts (gi_S ml_L_73 st_L_low it_L cd_L_low) rfl rfl rfl (by decide +kernel) ⟨Nat.le_of_ble_eq_true rfl, Nat.le_of_ble_eq_true rfl⟩) (pR_S (hP.sub (ws' := []) [] rfl) hK) rfl rfl hl.1 rfl (lv_room (Nat.le_of_ble_eq_true rfl)) dL_law_207 ⟨by omega, by omega⟩) (fun _ h => h) hS (fun v9 locs hv9 hS => ?_)
  obtain ⟨v, hv, rfl⟩ := hv9
  refine lv_istore (lv' := [(14, .int (I _)), (9, .int _), (10, .int _), (12, .int (I _)), (13, .int (I _)), (0, .ref _), (1, .ref _), (2, .ref _), (3, .ref _), (4, .ref _), (5, .ref _), (6, .ref _), (7, .ref _), (8, .int (I _))]) hx hb dL_law_210 hl (by decide) rfl (fun ls hl => ?_)
  refine lv_aload hx hb dL_law_212 (lv_lk hl rfl) ?_
  refine lv_iload hx hb dL_law_214 (lv_lk hl rfl) ?_
  refine iv_iald hx hb hK hP 2 rfl (k) (by omega) (by omega) dL_law_216 ?_
  refine iv_sipush hx hb dL_law_217 (by decide +kernel) ?_
  refine iv_idiv hx hb dL_law_220 (st (36 + 6 * k)) (by rw [dv_T (by omega)]; exact congrArg I (by omega)) (by omega) ?_
  refine lv_istore (lv' := [(15, .int (I _)), (14, .int (I _)), (9, .int _), (10, .int _), (12, .int (I _)), (13, .int (I _)), (0, .ref _), (1, .ref _), (2, .ref _), (3, .ref _), (4, .ref _), (5, .ref _), (6, .ref _), (7, .ref _), (8, .int (I _))]) hx hb dL_law_221 hl (by decide) rfl (fun ls hl => ?_)
  refine lv_aload hx hb dL_law_223 (lv_lk hl rfl) ?_
  refine lv_iload hx hb dL_law_225 (lv_lk hl rfl) ?_
  refine iv_sipush hx hb dL_law_227 (by decide +kernel) ?_
  refine lv_iload hx hb dL_law_230 (lv_lk hl rfl) ?_
  refine iv_iadd hx hb dL_law_232 ?_
  refine iv_iastK hx hb hK hP (hDn _ _ _ _ _ _) hS 2 rfl (k) (by omega) (by omega) dL_law_233 (lwW E β q z (up r k (1000 + (v : Int))) a mm ee) (rfl) (fun H locs hP k1 k2 hS => ?_)
  have hc := CP_on _ _ hc k1 (fun q9 hq h9 => k2 q9 hq (fun h8 => hAB q9 h9 ⟨2, by omega, h8⟩))
  refine lv_aload hx hb dL_law_234 (lv_lk hl rfl) ?_
  refine lv_iload hx hb dL_law_236 (lv_lk hl rfl) ?_
  refine lv_iload hx hb dL_law_238 (lv_lk hl rfl) ?_
  refine iv_iastK hx hb hK hP (hDn _ _ _ _ _ _) hS 3 rfl (k) (by omega) (by omega) dL_law_240 (lwW E β q z (up r k (1000 + (v : Int))) (up a k u) mm ee) (rfl) (fun H locs hP k1 k2 hS => ?_)
  have hc := CP_on _ _ hc k1 (fun q9 hq h9 => k2 q9 hq (fun h8 => hAB q9 h9 ⟨3, by omega, h8⟩))
  refine lv_aload_n hx hb dL_law_241 rfl (lv_lk hl rfl) ?_
  refine lv_iload hx hb dL_law_242 (lv_lk hl rfl) ?_
  refine lv_iload hx hb dL_law_244 (lv_lk hl rfl) ?_
  refine lv_iload hx hb dL_law_246 (lv_lk hl rfl) ?_
  refine call_P (va_runV ⟨hx, hb, hml, hown, hts⟩ (cp_W cp_bN (fun β9 ac fs fn hN => m_X5_setAnswer_ok l E γ α β9 st sv ((0 : Nat) : Int) ac (fun _ => 0) fs fn hN n hn k hk (v : Int) u (by omega) hu)) (cwV 3 hts (gi_V ml_L_129 im_X5_setAnswer sl_X5_setAnswer it_X5 cd_X5_setAnswer) rfl rfl rfl (by decide +kernel) ⟨Nat.le_of_ble_eq_true rfl, Nat.le_of_ble_eq_true rfl⟩) (pP_V hK hc (CP_0 _ hc) rfl) rfl rfl hl.1 rfl (lv_room (Nat.le_of_ble_eq_true rfl)) dL_law_248 ⟨by omega, by omega⟩) hA hS rfl (fun H locs k1 k2 hc hS => ?_)
  have hP : va_P E.1 vwCl (lwW E β q z (up r k (1000 + (v : Int))) (up a k u) mm ee) H := P_onA (A := adB β) (fun y9 hy => adB_in.mp hy) hP (fun q9 hq h9 => k2 q9 hq (fun h8 => hAB q9 h8 h9))
  refine lv_iload hx hb dL_law_251 (lv_lk hl rfl) ?_
  refine lv_icmp_eq (tgt := 258) hx hb dL_law_253 (by decide) (fun _ => ?_) (fun h9 => absurd rfl h9)
  refine lv_goto (tgt := 715) hx hb dL_law_258 (by decide) ?_
  exact law_tail hC t ⟨recN_le hn, IB_tru hI k 1 (v : Int) u hk (Or.inr (Or.inl ⟨rfl, by omega, by omega, hu.1, hu.2⟩)), IT_tru hT k 1 (v : Int) u, AC_tru hAC k 1 (v : Int) u, (by rw [up_ne _ _ (by omega), up_ne _ _ (by omega), up_ne _ _ (by omega)]; omega)⟩ (LR_t hL hk (kk := 1) (v := (v : Int)) (u := u) (by unfold eT; rw [if_neg (by omega)]; omega) (fun j hj => up_ne _ _ hj) (fun _ => up_eq _ _ _)) hc hP hS (lv_sub hl [3, 6, 7, 8, 9, 10, 11, 12, 13, 14] rfl) hr1 hr2 kk
set_option maxHeartbeats 2000000 in
set_option maxRecDepth 100000 in
theorem case_reference {p : Program} {l : Launch} {e : Jvm.Env} {s : State} {m : MethodId} {args : Array Value} {below : List Frame} {meth : Method} {c : Code} {H : Heap} {locs : List Loc} {cells slots : Nat} {Q : State → Prop} {ls : Array Slot} {b L : Nat} {xs : Nat → Int32} {E : Env3} {γ α β : Nat → Nat} {A : Nat → Prop} (hC : LawC p l s m args meth c b L xs E γ α β A) (t : Nat) (ht : t < 50) {st : S} {sv : Nat → S} {n : Nat} {q z r a mm ee : S} (hLI : LI9 st n t) (hL : LR st q z r a mm ee) (hc : CP0 E γ α A st sv n H) (hP : va_P E.1 vwCl (lwW E β q z r a mm ee) H) (hS : va_S (fun q => s.heap.size ≤ q) s.heap H locs) {x y : Int32} {k : Nat} (hk : k < 36) {u : Int} (hu : 1 ≤ u ∧ u ≤ 99)
    (hl : lv_has ls 17 [(9, .int x), (10, .int y), (12, .int (I (k : Int))), (13, .int (I u)), (0, .ref b), (1, .ref (γ 0)), (2, .ref (β 0)), (3, .ref (β 1)), (4, .ref (β 2)), (5, .ref (β 3)), (6, .ref (β 4)), (7, .ref (β 5)), (8, .int (I (t : Int)))]) (hr1 : cells + 1633 ≤ room_1.cells) (hr2 : slots + 44070 ≤ room_1.slots)
    (kk : ∀ (H1 : Heap) (locs1 : List Loc) (ls1 : Array Slot), DynP s E γ α β A (t + 1) H1 locs1 → lv_has ls1 17 (lvT b γ β t) → W p l e room_1 s m args below meth c H1 locs1 (cells + 1633) (slots + 44070) Q (F0 m 738 ls1 [])) : W p l e room_1 s m args below meth c H locs cells slots Q (F0 m 268 ls []) := by
  obtain ⟨⟨hx, hb, hr, hml, hown, hlocks, hts⟩, ⟨hX, hbl, hL8⟩, ⟨hK, hKX, hZ, hl0⟩, ⟨hA, hA2, hAB, hβ⟩⟩ := id hC
  obtain ⟨hn, hI, hT, hAC, ht0⟩ := id hLI
  have hDn : ∀ q z r a mm ee : S, va_D (fun q => s.heap.size ≤ q) (lwW E β q z r a mm ee) := fun _ _ _ _ _ _ => (D_of_dR hβ rfl).weaken (fun _ _ _ h => hA2 _ (adB_in.mp h))
  have hrT := eT_0 hL hI hk
  have hmM := eM_0 hL hI hk
  have hb1 := (hI.2.2.2 k hk).1
  have hb2 := (hI.2.2.2 k hk).2
  unfold triT at hb1
  unfold triM at hb2
  have hTb := hI.1
  have CUT294 : ∀ (v : Nat), (v < 36) → ∀ (H : Heap) (locs : List Loc) (ls : Array Slot), va_P E.1 vwCl (lwW E β q z r a mm ee) H → CP0 E γ α A st sv n H → va_S (fun q => s.heap.size ≤ q) s.heap H locs → lv_has ls 17 [(9, .int x), (10, .int y), (12, .int (I (k : Int))), (13, .int (I u)), (0, .ref b), (1, .ref (γ 0)), (2, .ref (β 0)), (3, .ref (β 1)), (4, .ref (β 2)), (5, .ref (β 3)), (6, .ref (β 4)), (7, .ref (β 5)), (8, .int (I (t : Int)))] → W p l e room_1 s m args below meth c H locs cells slots Q (F0 m 294 ls [.int (I (v : Int))]) := by
    intro v hv H locs ls hP hc hS hl
    refine lv_istore (lv' := [(14, .int (I _)), (9, .int _), (10, .int _), (12, .int (I _)), (13, .int (I _)), (0, .ref _), (1, .ref _), (2, .ref _), (3, .ref _), (4, .ref _), (5, .ref _), (6, .ref _), (7, .ref _), (8, .int (I _))]) hx hb dL_law_294 hl (by decide) rfl (fun ls hl => ?_)
    refine lv_iload hx hb dL_law_296 (lv_lk hl rfl) ?_
    refine lv_iload hx hb dL_law_298 (lv_lk hl rfl) ?_
    refine iv_icmp_ne (tgt := 306) hx hb dL_law_300 (by decide) (by omega) (by omega) (fun c_300 => ?_) (fun c_300 => ?_)
    · refine lv_aload hx hb dL_law_306 (lv_lk hl rfl) ?_
      refine lv_iload hx hb dL_law_308 (lv_lk hl rfl) ?_
      refine iv_iald hx hb hK hP 2 rfl (k) (by omega) (by omega) dL_law_310 ?_
      refine iv_sipush hx hb dL_law_311 (by decide +kernel) ?_
      refine iv_idiv hx hb dL_law_314 (st (36 + 6 * k)) (by rw [dv_T (by omega)]; exact congrArg I (by omega)) (by omega) ?_
      refine lv_istore (lv' := [(15, .int (I _)), (14, .int (I _)), (9, .int _), (10, .int _), (12, .int (I _)), (13, .int (I _)), (0, .ref _), (1, .ref _), (2, .ref _), (3, .ref _), (4, .ref _), (5, .ref _), (6, .ref _), (7, .ref _), (8, .int (I _))]) hx hb dL_law_315 hl (by decide) rfl (fun ls hl => ?_)
      refine lv_aload hx hb dL_law_317 (lv_lk hl rfl) ?_
      refine lv_iload hx hb dL_law_319 (lv_lk hl rfl) ?_
      refine iv_sipush hx hb dL_law_321 (by decide +kernel) ?_
      refine lv_iload hx hb dL_law_324 (lv_lk hl rfl) ?_
      refine iv_iadd hx hb dL_law_326 ?_
      refine iv_iastK hx hb hK hP (hDn _ _ _ _ _ _) hS 2 rfl (k) (by omega) (by omega) dL_law_327 (lwW E β q z (up r k (2000 + (v : Int))) a mm ee) (rfl) (fun H locs hP k1 k2 hS => ?_)
      have hc := CP_on _ _ hc k1 (fun q9 hq h9 => k2 q9 hq (fun h8 => hAB q9 h9 ⟨2, by omega, h8⟩))
      refine lv_aload hx hb dL_law_328 (lv_lk hl rfl) ?_
      refine lv_iload hx hb dL_law_330 (lv_lk hl rfl) ?_
      refine lv_iload hx hb dL_law_332 (lv_lk hl rfl) ?_
      refine iv_iastK hx hb hK hP (hDn _ _ _ _ _ _) hS 3 rfl (k) (by omega) (by omega) dL_law_334 (lwW E β q z (up r k (2000 + (v : Int))) (up a k u) mm ee) (rfl) (fun H locs hP k1 k2 hS => ?_)
      have hc := CP_on _ _ hc k1 (fun q9 hq h9 => k2 q9 hq (fun h8 => hAB q9 h9 ⟨3, by omega, h8⟩))
      refine lv_aload_n hx hb dL_law_335 rfl (lv_lk hl rfl) ?_
      refine lv_iload hx hb dL_law_336 (lv_lk hl rfl) ?_
      refine lv_iload hx hb dL_law_338 (lv_lk hl rfl) ?_
      refine lv_iload hx hb dL_law_340 (lv_lk hl rfl) ?_
      refine call_P (va_runV ⟨hx, hb, hml, hown, hts⟩ (cp_W cp_bN (fun β9 ac fs fn hN => m_X5_setReference_ok l E γ α β9 st sv ((0 : Nat) : Int) ac (fun _ => 0) fs fn hN n hn k v hk hv (by omega) u hu)) (cwV 3 hts (gi_V ml_L_133 im_X5_setReference sl_X5_setReference it_X5 cd_X5_setReference) rfl rfl rfl (by decide +kernel) ⟨Nat.le_of_ble_eq_true rfl, Nat.le_of_ble_eq_true rfl⟩) (pP_V hK hc (CP_0 _ hc) rfl) rfl rfl hl.1 rfl (lv_room (Nat.le_of_ble_eq_true rfl)) dL_law_342 ⟨by omega, by omega⟩) hA hS rfl (fun H locs k1 k2 hc hS => ?_)
      have hP : va_P E.1 vwCl (lwW E β q z (up r k (2000 + (v : Int))) (up a k u) mm ee) H := P_onA (A := adB β) (fun y9 hy => adB_in.mp hy) hP (fun q9 hq h9 => k2 q9 hq (fun h8 => hAB q9 h8 h9))
      refine lv_iload hx hb dL_law_345 (lv_lk hl rfl) ?_
      refine lv_icmp_eq (tgt := 352) hx hb dL_law_347 (by decide) (fun _ => ?_) (fun h9 => absurd rfl h9)
      refine lv_goto (tgt := 715) hx hb dL_law_352 (by decide) ?_
      exact law_tail hC t ⟨recN_le hn, IB_tru hI k 2 (v : Int) u hk (Or.inr (Or.inr ⟨rfl, by omega, by omega, hu.1, hu.2⟩)), IT_tru hT k 2 (v : Int) u, AC_tru hAC k 2 (v : Int) u, (by rw [up_ne _ _ (by omega), up_ne _ _ (by omega), up_ne _ _ (by omega)]; omega)⟩ (LR_t hL hk (kk := 2) (v := (v : Int)) (u := u) (by unfold eT; rw [if_neg (by omega)]; omega) (fun j hj => up_ne _ _ hj) (fun _ => up_eq _ _ _)) hc hP hS (lv_sub hl [3, 6, 7, 8, 9, 10, 11, 12, 13, 14] rfl) hr1 hr2 kk
    · refine lv_goto (tgt := 738) hx hb dL_law_303 (by decide) ?_
      refine W.widen (k := cells + 1633) (n := slots + 44070) (by omega) (by omega) ?_
      exact kk _ _ _ ⟨st, sv, n, q, z, r, a, mm, ee, hLI.next, hL, hc, hP, hS⟩ (lv_sub hl [5, 6, 7, 8, 9, 10, 11, 12, 13] rfl)
  refine lv_iload hx hb dL_law_268 (lv_lk hl rfl) ?_
  refine iv_bipush hx hb dL_law_270 (by decide +kernel) ?_
  refine lv_ishr hx hb dL_law_272 ?_
  refine lv_iload hx hb dL_law_273 (lv_lk hl rfl) ?_
  refine iv_iconst hx hb dL_law_275 ?_
  refine lv_ishr hx hb dL_law_276 ?_
  refine iv_iconst hx hb dL_law_277 ?_
  refine iv_eq (((2 : Nat) : Int)) rfl ?_
  refine call_E (va_runS ⟨hx, hb, hml, hown, hts⟩ (m_L_low l E _ 2 (by omega)) (va_cwS 2 hts (gi_S ml_L_73 st_L_low it_L cd_L_low) rfl rfl rfl (by decide +kernel) ⟨Nat.le_of_ble_eq_true rfl, Nat.le_of_ble_eq_true rfl⟩) (pR_S (hP.sub (ws' := []) [] rfl) hK) rfl rfl hl.1 rfl (lv_room (Nat.le_of_ble_eq_true rfl)) dL_law_278 ⟨by omega, by omega⟩) (fun _ h => h) hS (fun v9 locs hv9 hS => ?_)
  obtain ⟨v8, hv8, rfl⟩ := hv9
  refine iv_if_ne (tgt := 289) hx hb dL_law_281 (by decide) (by omega) (fun c_281 => ?_) (fun c_281 => ?_)
  · refine iv_bipush hx hb dL_law_289 (by decide +kernel) ?_
    refine iv_eq (((9 : Nat) : Int)) rfl ?_
    refine call_E (va_runS ⟨hx, hb, hml, hown, hts⟩ (m_L_low l E _ 9 (by omega)) (va_cwS 2 hts (gi_S ml_L_73 st_L_low it_L cd_L_low) rfl rfl rfl (by decide +kernel) ⟨Nat.le_of_ble_eq_true rfl, Nat.le_of_ble_eq_true rfl⟩) (pR_S (hP.sub (ws' := []) [] rfl) hK) rfl rfl hl.1 rfl (lv_room (Nat.le_of_ble_eq_true rfl)) dL_law_291 ⟨by omega, by omega⟩) (fun _ h => h) hS (fun v9 locs hv9 hS => ?_)
    obtain ⟨v7, hv7, rfl⟩ := hv9
    exact CUT294 v7 (by omega) _ _ _ hP hc hS (lv_sub hl [0, 1, 2, 3, 4, 5, 6, 7, 8, 9, 10, 11, 12] rfl)
  · refine iv_bipush hx hb dL_law_284 (by decide +kernel) ?_
    refine lv_goto (tgt := 291) hx hb dL_law_286 (by decide) ?_
    refine iv_eq (((36 : Nat) : Int)) rfl ?_
    refine call_E (va_runS ⟨hx, hb, hml, hown, hts⟩ (m_L_low l E _ 36 (by omega)) (va_cwS 2 hts (gi_S ml_L_73 st_L_low it_L cd_L_low) rfl rfl rfl (by decide +kernel) ⟨Nat.le_of_ble_eq_true rfl, Nat.le_of_ble_eq_true rfl⟩) (pR_S (hP.sub (ws' := []) [] rfl) hK) rfl rfl hl.1 rfl (lv_room (Nat.le_of_ble_eq_true rfl)) dL_law_291 ⟨by omega, by omega⟩) (fun _ h => h) hS (fun v9 locs hv9 hS => ?_)
    obtain ⟨v7, hv7, rfl⟩ := hv9
    exact CUT294 v7 (by omega) _ _ _ hP hc hS (lv_sub hl [0, 1, 2, 3, 4, 5, 6, 7, 8, 9, 10, 11, 12] rfl)
set_option maxHeartbeats 2000000 in
set_option maxRecDepth 100000 in
theorem case_take {p : Program} {l : Launch} {e : Jvm.Env} {s : State} {m : MethodId} {args : Array Value} {below : List Frame} {meth : Method} {c : Code} {H : Heap} {locs : List Loc} {cells slots : Nat} {Q : State → Prop} {ls : Array Slot} {b L : Nat} {xs : Nat → Int32} {E : Env3} {γ α β : Nat → Nat} {A : Nat → Prop} (hC : LawC p l s m args meth c b L xs E γ α β A) (t : Nat) (ht : t < 50) {st : S} {sv : Nat → S} {n : Nat} {q z r a mm ee : S} (hLI : LI9 st n t) (hL : LR st q z r a mm ee) (hc : CP0 E γ α A st sv n H) (hP : va_P E.1 vwCl (lwW E β q z r a mm ee) H) (hS : va_S (fun q => s.heap.size ≤ q) s.heap H locs) {x y : Int32} {k : Nat} (hk : k < 36) {u : Int} (hu : 1 ≤ u ∧ u ≤ 99)
    (hl : lv_has ls 17 [(9, .int x), (10, .int y), (12, .int (I (k : Int))), (13, .int (I u)), (0, .ref b), (1, .ref (γ 0)), (2, .ref (β 0)), (3, .ref (β 1)), (4, .ref (β 2)), (5, .ref (β 3)), (6, .ref (β 4)), (7, .ref (β 5)), (8, .int (I (t : Int)))]) (hr1 : cells + 1633 ≤ room_1.cells) (hr2 : slots + 44070 ≤ room_1.slots)
    (kk : ∀ (H1 : Heap) (locs1 : List Loc) (ls1 : Array Slot), DynP s E γ α β A (t + 1) H1 locs1 → lv_has ls1 17 (lvT b γ β t) → W p l e room_1 s m args below meth c H1 locs1 (cells + 1633) (slots + 44070) Q (F0 m 738 ls1 [])) : W p l e room_1 s m args below meth c H locs cells slots Q (F0 m 362 ls []) := by
  obtain ⟨⟨hx, hb, hr, hml, hown, hlocks, hts⟩, ⟨hX, hbl, hL8⟩, ⟨hK, hKX, hZ, hl0⟩, ⟨hA, hA2, hAB, hβ⟩⟩ := id hC
  obtain ⟨hn, hI, hT, hAC, ht0⟩ := id hLI
  have hDn : ∀ q z r a mm ee : S, va_D (fun q => s.heap.size ≤ q) (lwW E β q z r a mm ee) := fun _ _ _ _ _ _ => (D_of_dR hβ rfl).weaken (fun _ _ _ h => hA2 _ (adB_in.mp h))
  have hrT := eT_0 hL hI hk
  have hmM := eM_0 hL hI hk
  have hb1 := (hI.2.2.2 k hk).1
  have hb2 := (hI.2.2.2 k hk).2
  unfold triT at hb1
  unfold triM at hb2
  have hTb := hI.1
  refine lv_aload hx hb dL_law_362 (lv_lk hl rfl) ?_
  refine lv_iload hx hb dL_law_364 (lv_lk hl rfl) ?_
  refine iv_iald hx hb hK hP 2 rfl (k) (by omega) (by omega) dL_law_366 ?_
  refine iv_if_ne (tgt := 382) hx hb dL_law_367 (by decide) (by omega) (fun c_367 => ?_) (fun c_367 => ?_)
  · refine lv_aload hx hb dL_law_382 (lv_lk hl rfl) ?_
    refine lv_iload hx hb dL_law_384 (lv_lk hl rfl) ?_
    refine iv_iald hx hb hK hP 2 rfl (k) (by omega) (by omega) dL_law_386 ?_
    refine iv_sipush hx hb dL_law_387 (by decide +kernel) ?_
    refine iv_idiv hx hb dL_law_390 (st (36 + 6 * k)) (by rw [dv_T (by omega)]; exact congrArg I (by omega)) (by omega) ?_
    refine lv_istore (lv' := [(14, .int (I _)), (9, .int _), (10, .int _), (12, .int (I _)), (13, .int (I _)), (0, .ref _), (1, .ref _), (2, .ref _), (3, .ref _), (4, .ref _), (5, .ref _), (6, .ref _), (7, .ref _), (8, .int (I _))]) hx hb dL_law_391 hl (by decide) rfl (fun ls hl => ?_)
    refine lv_aload hx hb dL_law_393 (lv_lk hl rfl) ?_
    refine lv_iload hx hb dL_law_395 (lv_lk hl rfl) ?_
    refine iv_iconst hx hb dL_law_397 ?_
    refine iv_iastK hx hb hK hP (hDn _ _ _ _ _ _) hS 2 rfl (k) (by omega) (by omega) dL_law_398 (lwW E β q z (up r k 0) a mm ee) (rfl) (fun H locs hP k1 k2 hS => ?_)
    have hc := CP_on _ _ hc k1 (fun q9 hq h9 => k2 q9 hq (fun h8 => hAB q9 h9 ⟨2, by omega, h8⟩))
    refine lv_aload_n hx hb dL_law_399 rfl (lv_lk hl rfl) ?_
    refine lv_iload hx hb dL_law_400 (lv_lk hl rfl) ?_
    refine call_P (va_runV ⟨hx, hb, hml, hown, hts⟩ (cp_W cp_bN (fun β9 ac fs fn hN => m_X5_takeAway_ok l E γ α β9 st sv ((0 : Nat) : Int) ac (fun _ => 0) fs fn hN n hn k hk (by omega) (by omega))) (cwV 1 hts (gi_V ml_L_116 im_X5_takeAway sl_X5_takeAway it_X5 cd_X5_takeAway) rfl rfl rfl (by decide +kernel) ⟨Nat.le_of_ble_eq_true rfl, Nat.le_of_ble_eq_true rfl⟩) (pP_V hK hc (CP_0 _ hc) rfl) rfl rfl hl.1 rfl (lv_room (Nat.le_of_ble_eq_true rfl)) dL_law_402 ⟨by omega, by omega⟩) hA hS rfl (fun H locs k1 k2 hc hS => ?_)
    have hP : va_P E.1 vwCl (lwW E β q z (up r k 0) a mm ee) H := P_onA (A := adB β) (fun y9 hy => adB_in.mp hy) hP (fun q9 hq h9 => k2 q9 hq (fun h8 => hAB q9 h8 h9))
    refine lv_iload hx hb dL_law_405 (lv_lk hl rfl) ?_
    refine lv_icmp_eq (tgt := 412) hx hb dL_law_407 (by decide) (fun _ => ?_) (fun h9 => absurd rfl h9)
    refine lv_goto (tgt := 715) hx hb dL_law_412 (by decide) ?_
    exact law_tail hC t ⟨recN_le hn, IB_tru hI k 0 (-1) 0 hk (Or.inl ⟨rfl, rfl, rfl⟩), IT_tru hT k 0 (-1) 0, AC_tru hAC k 0 (-1) 0, (by rw [up_ne _ _ (by omega), up_ne _ _ (by omega), up_ne _ _ (by omega)]; omega)⟩ (LR_t hL hk (kk := 0) (v := -1) (u := 0) rfl (fun j hj => rfl) (fun h9 => absurd rfl h9)) hc hP hS (lv_sub hl [2, 5, 6, 7, 8, 9, 10, 11, 12, 13] rfl) hr1 hr2 kk
  · refine lv_aload_n hx hb dL_law_370 rfl (lv_lk hl rfl) ?_
    refine iv_iconst hx hb dL_law_371 ?_
    refine lv_iload hx hb dL_law_372 (lv_lk hl rfl) ?_
    refine call_P (vx_runSW ⟨hx, hb, hml, hown, hts⟩ (m_L_refused_0 l hl0 E γ α A st sv n 0 (fun _ => 0) k hk (by omega)) (vx_cwSW 3 hts (gi_S ml_L_136 st_L_refused it_L cd_L_refused) rfl rfl rfl (by decide +kernel) ⟨Nat.le_of_ble_eq_true rfl, Nat.le_of_ble_eq_true rfl⟩) (pX_S hK hKX ((hZ.kept hS.2.1).narrow hA) hc) rfl rfl hl.1 rfl (lv_room (Nat.le_of_ble_eq_true rfl)) dL_law_374 ⟨by omega, by omega⟩) hA hS rfl (fun H locs k1 k2 hc hS => ?_)
    have hP : va_P E.1 vwCl (lwW E β q z r a mm ee) H := P_onA (A := adB β) (fun y9 hy => adB_in.mp hy) hP (fun q9 hq h9 => k2 q9 hq (fun h8 => hAB q9 h8 h9))
    refine iv_if_ne (tgt := 738) hx hb dL_law_377 (by decide) (by omega) (fun c_377 => ?_) (fun c_377 => by exfalso; omega)
    refine W.widen (k := cells + 1633) (n := slots + 44070) (by omega) (by omega) ?_
    exact kk _ _ _ ⟨st, sv, n, q, z, r, a, mm, ee, hLI.next, hL, hc, hP, hS⟩ (lv_sub hl [4, 5, 6, 7, 8, 9, 10, 11, 12] rfl)
set_option maxHeartbeats 2000000 in
set_option maxRecDepth 100000 in
theorem case_parent {p : Program} {l : Launch} {e : Jvm.Env} {s : State} {m : MethodId} {args : Array Value} {below : List Frame} {meth : Method} {c : Code} {H : Heap} {locs : List Loc} {cells slots : Nat} {Q : State → Prop} {ls : Array Slot} {b L : Nat} {xs : Nat → Int32} {E : Env3} {γ α β : Nat → Nat} {A : Nat → Prop} (hC : LawC p l s m args meth c b L xs E γ α β A) (t : Nat) (ht : t < 50) {st : S} {sv : Nat → S} {n : Nat} {q z r a mm ee : S} (hLI : LI9 st n t) (hL : LR st q z r a mm ee) (hc : CP0 E γ α A st sv n H) (hP : va_P E.1 vwCl (lwW E β q z r a mm ee) H) (hS : va_S (fun q => s.heap.size ≤ q) s.heap H locs) {x y : Int32} {k : Nat} (hk : k < 36) {u : Int} (hu : 1 ≤ u ∧ u ≤ 99)
    (hl : lv_has ls 17 [(9, .int x), (10, .int y), (12, .int (I (k : Int))), (13, .int (I u)), (0, .ref b), (1, .ref (γ 0)), (2, .ref (β 0)), (3, .ref (β 1)), (4, .ref (β 2)), (5, .ref (β 3)), (6, .ref (β 4)), (7, .ref (β 5)), (8, .int (I (t : Int)))]) (hr1 : cells + 1633 ≤ room_1.cells) (hr2 : slots + 44070 ≤ room_1.slots)
    (kk : ∀ (H1 : Heap) (locs1 : List Loc) (ls1 : Array Slot), DynP s E γ α β A (t + 1) H1 locs1 → lv_has ls1 17 (lvT b γ β t) → W p l e room_1 s m args below meth c H1 locs1 (cells + 1633) (slots + 44070) Q (F0 m 738 ls1 [])) : W p l e room_1 s m args below meth c H locs cells slots Q (F0 m 422 ls []) := by
  obtain ⟨⟨hx, hb, hr, hml, hown, hlocks, hts⟩, ⟨hX, hbl, hL8⟩, ⟨hK, hKX, hZ, hl0⟩, ⟨hA, hA2, hAB, hβ⟩⟩ := id hC
  obtain ⟨hn, hI, hT, hAC, ht0⟩ := id hLI
  have hDn : ∀ q z r a mm ee : S, va_D (fun q => s.heap.size ≤ q) (lwW E β q z r a mm ee) := fun _ _ _ _ _ _ => (D_of_dR hβ rfl).weaken (fun _ _ _ h => hA2 _ (adB_in.mp h))
  have hrT := eT_0 hL hI hk
  have hmM := eM_0 hL hI hk
  have hb1 := (hI.2.2.2 k hk).1
  have hb2 := (hI.2.2.2 k hk).2
  unfold triT at hb1
  unfold triM at hb2
  have hTb := hI.1
  refine iv_iconst hx hb dL_law_422 ?_
  refine lv_iload hx hb dL_law_423 (lv_lk hl rfl) ?_
  refine iv_iconst hx hb dL_law_425 ?_
  refine iv_eq (((5 : Nat) : Int)) rfl ?_
  refine call_E (va_runS ⟨hx, hb, hml, hown, hts⟩ (m_L_low l E _ 5 (by omega)) (va_cwS 2 hts (gi_S ml_L_73 st_L_low it_L cd_L_low) rfl rfl rfl (by decide +kernel) ⟨Nat.le_of_ble_eq_true rfl, Nat.le_of_ble_eq_true rfl⟩) (pR_S (hP.sub (ws' := []) [] rfl) hK) rfl rfl hl.1 rfl (lv_room (Nat.le_of_ble_eq_true rfl)) dL_law_426 ⟨by omega, by omega⟩) (fun _ h => h) hS (fun v9 locs hv9 hS => ?_)
  obtain ⟨j, hj, rfl⟩ := hv9
  refine iv_iadd hx hb dL_law_429 ?_
  refine iv_eq (((j + 1 : Nat) : Int)) (by omega) ?_
  refine lv_istore (lv' := [(14, .int (I _)), (9, .int _), (10, .int _), (12, .int (I _)), (13, .int (I _)), (0, .ref _), (1, .ref _), (2, .ref _), (3, .ref _), (4, .ref _), (5, .ref _), (6, .ref _), (7, .ref _), (8, .int (I _))]) hx hb dL_law_430 hl (by decide) rfl (fun ls hl => ?_)
  refine lv_iload hx hb dL_law_432 (lv_lk hl rfl) ?_
  refine iv_iconst hx hb dL_law_434 ?_
  refine lv_ishr hx hb dL_law_435 ?_
  refine lv_iload hx hb dL_law_436 (lv_lk hl rfl) ?_
  refine call_E (va_runS ⟨hx, hb, hml, hown, hts⟩ (m_L_low l E _ (j + 1) (by omega)) (va_cwS 2 hts (gi_S ml_L_73 st_L_low it_L cd_L_low) rfl rfl rfl (by decide +kernel) ⟨Nat.le_of_ble_eq_true rfl, Nat.le_of_ble_eq_true rfl⟩) (pR_S (hP.sub (ws' := []) [] rfl) hK) rfl rfl hl.1 rfl (lv_room (Nat.le_of_ble_eq_true rfl)) dL_law_438 ⟨by omega, by omega⟩) (fun _ h => h) hS (fun v9 locs hv9 hS => ?_)
  obtain ⟨v, hv, rfl⟩ := hv9
  refine lv_istore (lv' := [(15, .int (I _)), (14, .int (I _)), (9, .int _), (10, .int _), (12, .int (I _)), (13, .int (I _)), (0, .ref _), (1, .ref _), (2, .ref _), (3, .ref _), (4, .ref _), (5, .ref _), (6, .ref _), (7, .ref _), (8, .int (I _))]) hx hb dL_law_441 hl (by decide) rfl (fun ls hl => ?_)
  refine lv_aload_n hx hb dL_law_443 rfl (lv_lk hl rfl) ?_
  refine iv_iconst hx hb dL_law_444 ?_
  refine lv_iload hx hb dL_law_445 (lv_lk hl rfl) ?_
  refine iv_imul hx hb dL_law_447 ?_
  refine iv_iald hx hb hK hP 1 rfl (5 * (j + 1)) (by omega) (by omega) dL_law_448 ?_
  refine lv_istore (lv' := [(16, .int (I _)), (15, .int (I _)), (14, .int (I _)), (9, .int _), (10, .int _), (12, .int (I _)), (13, .int (I _)), (0, .ref _), (1, .ref _), (2, .ref _), (3, .ref _), (4, .ref _), (5, .ref _), (6, .ref _), (7, .ref _), (8, .int (I _))]) hx hb dL_law_449 hl (by decide) rfl (fun ls hl => ?_)
  refine lv_aload_n hx hb dL_law_451 rfl (lv_lk hl rfl) ?_
  refine iv_iconst hx hb dL_law_452 ?_
  refine lv_iload hx hb dL_law_453 (lv_lk hl rfl) ?_
  refine iv_imul hx hb dL_law_455 ?_
  refine lv_iload hx hb dL_law_456 (lv_lk hl rfl) ?_
  refine iv_iastK hx hb hK hP (hDn _ _ _ _ _ _) hS 1 rfl (5 * (j + 1)) (by omega) (by omega) dL_law_458 (lwW E β q (up z (5 * (j + 1)) (v : Int)) r a mm ee) (rfl) (fun H locs hP k1 k2 hS => ?_)
  have hc := CP_on _ _ hc k1 (fun q9 hq h9 => k2 q9 hq (fun h8 => hAB q9 h9 ⟨1, by omega, h8⟩))
  refine lv_aload_n hx hb dL_law_459 rfl (lv_lk hl rfl) ?_
  refine lv_iload hx hb dL_law_460 (lv_lk hl rfl) ?_
  refine lv_iload hx hb dL_law_462 (lv_lk hl rfl) ?_
  refine call_P (va_runV ⟨hx, hb, hml, hown, hts⟩ (cp_W cp_bN (fun β9 ac fs fn hN => m_X5_setParent_ok l E γ α β9 st sv ((0 : Nat) : Int) ac (fun _ => 0) fs fn hN n hn (j + 1) v (by omega) (by omega) (by omega))) (cwV 2 hts (gi_V ml_L_140 im_X5_setParent sl_X5_setParent it_X5 cd_X5_setParent) rfl rfl rfl (by decide +kernel) ⟨Nat.le_of_ble_eq_true rfl, Nat.le_of_ble_eq_true rfl⟩) (pP_V hK hc (CP_0 _ hc) rfl) rfl rfl hl.1 rfl (lv_room (Nat.le_of_ble_eq_true rfl)) dL_law_464 ⟨by omega, by omega⟩) hA hS rfl (fun H locs k1 k2 hc hS => ?_)
  have hP : va_P E.1 vwCl (lwW E β q (up z (5 * (j + 1)) (v : Int)) r a mm ee) H := P_onA (A := adB β) (fun y9 hy => adB_in.mp hy) hP (fun q9 hq h9 => k2 q9 hq (fun h8 => hAB q9 h8 h9))
  refine lv_iload hx hb dL_law_467 (lv_lk hl rfl) ?_
  refine iv_eq (st (6 + 5 * (j + 1))) (hL.2.1 _ (by omega)) ?_
  refine lv_icmp_eq (tgt := 474) hx hb dL_law_469 (by decide) (fun _ => ?_) (fun h9 => absurd rfl h9)
  refine lv_goto (tgt := 715) hx hb dL_law_474 (by decide) ?_
  exact law_tail hC t ⟨recN_le hn, IB_zone hI (j + 1) 0 (v : Int) (by omega) (Or.inl ⟨rfl, by omega, by omega, by omega⟩), IT_zone hT (j + 1) 0 (v : Int) (by omega) (by omega), AC_zn hAC (j + 1) 0 (v : Int) (by omega) (by omega), (by rw [up_ne _ _ (by omega)]; omega)⟩ (LR_z hL (by omega) rfl rfl) hc hP hS (lv_sub hl [4, 7, 8, 9, 10, 11, 12, 13, 14, 15] rfl) hr1 hr2 kk
set_option maxHeartbeats 2000000 in
set_option maxRecDepth 100000 in
theorem case_ages {p : Program} {l : Launch} {e : Jvm.Env} {s : State} {m : MethodId} {args : Array Value} {below : List Frame} {meth : Method} {c : Code} {H : Heap} {locs : List Loc} {cells slots : Nat} {Q : State → Prop} {ls : Array Slot} {b L : Nat} {xs : Nat → Int32} {E : Env3} {γ α β : Nat → Nat} {A : Nat → Prop} (hC : LawC p l s m args meth c b L xs E γ α β A) (t : Nat) (ht : t < 50) {st : S} {sv : Nat → S} {n : Nat} {q z r a mm ee : S} (hLI : LI9 st n t) (hL : LR st q z r a mm ee) (hc : CP0 E γ α A st sv n H) (hP : va_P E.1 vwCl (lwW E β q z r a mm ee) H) (hS : va_S (fun q => s.heap.size ≤ q) s.heap H locs) {x y : Int32} {k : Nat} (hk : k < 36) {u : Int} (hu : 1 ≤ u ∧ u ≤ 99)
    (hl : lv_has ls 17 [(9, .int x), (10, .int y), (12, .int (I (k : Int))), (13, .int (I u)), (0, .ref b), (1, .ref (γ 0)), (2, .ref (β 0)), (3, .ref (β 1)), (4, .ref (β 2)), (5, .ref (β 3)), (6, .ref (β 4)), (7, .ref (β 5)), (8, .int (I (t : Int)))]) (hr1 : cells + 1633 ≤ room_1.cells) (hr2 : slots + 44070 ≤ room_1.slots)
    (kk : ∀ (H1 : Heap) (locs1 : List Loc) (ls1 : Array Slot), DynP s E γ α β A (t + 1) H1 locs1 → lv_has ls1 17 (lvT b γ β t) → W p l e room_1 s m args below meth c H1 locs1 (cells + 1633) (slots + 44070) Q (F0 m 738 ls1 [])) : W p l e room_1 s m args below meth c H locs cells slots Q (F0 m 484 ls []) := by
  obtain ⟨⟨hx, hb, hr, hml, hown, hlocks, hts⟩, ⟨hX, hbl, hL8⟩, ⟨hK, hKX, hZ, hl0⟩, ⟨hA, hA2, hAB, hβ⟩⟩ := id hC
  obtain ⟨hn, hI, hT, hAC, ht0⟩ := id hLI
  have hDn : ∀ q z r a mm ee : S, va_D (fun q => s.heap.size ≤ q) (lwW E β q z r a mm ee) := fun _ _ _ _ _ _ => (D_of_dR hβ rfl).weaken (fun _ _ _ h => hA2 _ (adB_in.mp h))
  have hrT := eT_0 hL hI hk
  have hmM := eM_0 hL hI hk
  have hb1 := (hI.2.2.2 k hk).1
  have hb2 := (hI.2.2.2 k hk).2
  unfold triT at hb1
  unfold triM at hb2
  have hTb := hI.1
  refine lv_iload hx hb dL_law_484 (lv_lk hl rfl) ?_
  refine iv_bipush hx hb dL_law_486 (by decide +kernel) ?_
  refine iv_eq (((6 : Nat) : Int)) rfl ?_
  refine call_E (va_runS ⟨hx, hb, hml, hown, hts⟩ (m_L_low l E _ 6 (by omega)) (va_cwS 2 hts (gi_S ml_L_73 st_L_low it_L cd_L_low) rfl rfl rfl (by decide +kernel) ⟨Nat.le_of_ble_eq_true rfl, Nat.le_of_ble_eq_true rfl⟩) (pR_S (hP.sub (ws' := []) [] rfl) hK) rfl rfl hl.1 rfl (lv_room (Nat.le_of_ble_eq_true rfl)) dL_law_488 ⟨by omega, by omega⟩) (fun _ h => h) hS (fun v9 locs hv9 hS => ?_)
  obtain ⟨i, hi, rfl⟩ := hv9
  refine lv_istore (lv' := [(14, .int (I _)), (9, .int _), (10, .int _), (12, .int (I _)), (13, .int (I _)), (0, .ref _), (1, .ref _), (2, .ref _), (3, .ref _), (4, .ref _), (5, .ref _), (6, .ref _), (7, .ref _), (8, .int (I _))]) hx hb dL_law_491 hl (by decide) rfl (fun ls hl => ?_)
  refine lv_aload_n hx hb dL_law_493 rfl (lv_lk hl rfl) ?_
  refine iv_iconst hx hb dL_law_494 ?_
  refine lv_iload hx hb dL_law_495 (lv_lk hl rfl) ?_
  refine iv_imul hx hb dL_law_497 ?_
  refine iv_iconst hx hb dL_law_498 ?_
  refine iv_iadd hx hb dL_law_499 ?_
  refine iv_iald hx hb hK hP 1 rfl (5 * i + 1) (by omega) (by omega) dL_law_500 ?_
  refine lv_istore (lv' := [(15, .int (I _)), (14, .int (I _)), (9, .int _), (10, .int _), (12, .int (I _)), (13, .int (I _)), (0, .ref _), (1, .ref _), (2, .ref _), (3, .ref _), (4, .ref _), (5, .ref _), (6, .ref _), (7, .ref _), (8, .int (I _))]) hx hb dL_law_501 hl (by decide) rfl (fun ls hl => ?_)
  refine lv_aload_n hx hb dL_law_503 rfl (lv_lk hl rfl) ?_
  refine iv_iconst hx hb dL_law_504 ?_
  refine lv_iload hx hb dL_law_505 (lv_lk hl rfl) ?_
  refine iv_imul hx hb dL_law_507 ?_
  refine iv_iconst hx hb dL_law_508 ?_
  refine iv_iadd hx hb dL_law_509 ?_
  refine lv_iload hx hb dL_law_510 (lv_lk hl rfl) ?_
  refine iv_iastK hx hb hK hP (hDn _ _ _ _ _ _) hS 1 rfl (5 * i + 1) (by omega) (by omega) dL_law_512 (lwW E β q (up z (5 * i + 1) u) r a mm ee) (rfl) (fun H locs hP k1 k2 hS => ?_)
  have hc := CP_on _ _ hc k1 (fun q9 hq h9 => k2 q9 hq (fun h8 => hAB q9 h9 ⟨1, by omega, h8⟩))
  refine lv_aload_n hx hb dL_law_513 rfl (lv_lk hl rfl) ?_
  refine iv_iconst hx hb dL_law_514 ?_
  refine lv_iload hx hb dL_law_515 (lv_lk hl rfl) ?_
  refine iv_imul hx hb dL_law_517 ?_
  refine iv_iconst hx hb dL_law_518 ?_
  refine iv_iadd hx hb dL_law_519 ?_
  refine iv_iconst hx hb dL_law_520 ?_
  refine lv_iload hx hb dL_law_521 (lv_lk hl rfl) ?_
  refine iv_bipush hx hb dL_law_523 (by decide +kernel) ?_
  refine lv_ishr hx hb dL_law_525 ?_
  refine iv_bipush hx hb dL_law_526 (by decide +kernel) ?_
  refine iv_eq (((20 : Nat) : Int)) rfl ?_
  refine call_E (va_runS ⟨hx, hb, hml, hown, hts⟩ (m_L_low l E _ 20 (by omega)) (va_cwS 2 hts (gi_S ml_L_73 st_L_low it_L cd_L_low) rfl rfl rfl (by decide +kernel) ⟨Nat.le_of_ble_eq_true rfl, Nat.le_of_ble_eq_true rfl⟩) (pR_S (hP.sub (ws' := []) [] rfl) hK) rfl rfl hl.1 rfl (lv_room (Nat.le_of_ble_eq_true rfl)) dL_law_528 ⟨by omega, by omega⟩) (fun _ h => h) hS (fun v9 locs hv9 hS => ?_)
  obtain ⟨v, hv, rfl⟩ := hv9
  refine iv_iadd hx hb dL_law_531 ?_
  refine iv_iastK hx hb hK hP (hDn _ _ _ _ _ _) hS 1 rfl (5 * i + 2) (by omega) (by omega) dL_law_532 (lwW E β q (up (up z (5 * i + 1) u) (5 * i + 2) (1 + (v : Int))) r a mm ee) (rfl) (fun H locs hP k1 k2 hS => ?_)
  have hc := CP_on _ _ hc k1 (fun q9 hq h9 => k2 q9 hq (fun h8 => hAB q9 h9 ⟨1, by omega, h8⟩))
  refine lv_aload_n hx hb dL_law_533 rfl (lv_lk hl rfl) ?_
  refine lv_iload hx hb dL_law_534 (lv_lk hl rfl) ?_
  refine lv_iload hx hb dL_law_536 (lv_lk hl rfl) ?_
  refine lv_aload_n hx hb dL_law_538 rfl (lv_lk hl rfl) ?_
  refine iv_iconst hx hb dL_law_539 ?_
  refine lv_iload hx hb dL_law_540 (lv_lk hl rfl) ?_
  refine iv_imul hx hb dL_law_542 ?_
  refine iv_iconst hx hb dL_law_543 ?_
  refine iv_iadd hx hb dL_law_544 ?_
  refine iv_iald hx hb hK hP 1 rfl (5 * i + 2) (by omega) (by omega) dL_law_545 ?_
  refine iv_eq (1 + (v : Int)) (up_eq _ _ _) ?_
  refine call_P (va_runV ⟨hx, hb, hml, hown, hts⟩ (cp_W cp_bN (fun β9 ac fs fn hN => m_X5_setAges_ok l E γ α β9 st sv ((0 : Nat) : Int) ac (fun _ => 0) fs fn hN n hn i hi u (1 + (v : Int)) hu (by omega))) (cwV 3 hts (gi_V ml_L_143 im_X5_setAges sl_X5_setAges it_X5 cd_X5_setAges) rfl rfl rfl (by decide +kernel) ⟨Nat.le_of_ble_eq_true rfl, Nat.le_of_ble_eq_true rfl⟩) (pP_V hK hc (CP_0 _ hc) rfl) rfl rfl hl.1 rfl (lv_room (Nat.le_of_ble_eq_true rfl)) dL_law_546 ⟨by omega, by omega⟩) hA hS rfl (fun H locs k1 k2 hc hS => ?_)
  have hP : va_P E.1 vwCl (lwW E β q (up (up z (5 * i + 1) u) (5 * i + 2) (1 + (v : Int))) r a mm ee) H := P_onA (A := adB β) (fun y9 hy => adB_in.mp hy) hP (fun q9 hq h9 => k2 q9 hq (fun h8 => hAB q9 h8 h9))
  refine lv_iload hx hb dL_law_549 (lv_lk hl rfl) ?_
  refine iv_eq (st (6 + 5 * i + 1)) (by rw [hL.2.1 _ (by omega)]; exact congrArg st (by omega)) ?_
  refine lv_icmp_eq (tgt := 556) hx hb dL_law_551 (by decide) (fun _ => ?_) (fun h9 => absurd rfl h9)
  refine lv_goto (tgt := 715) hx hb dL_law_556 (by decide) ?_
  exact law_tail hC t ⟨recN_le hn, IB_zone (IB_zone hI i 1 u hi (Or.inr (Or.inl ⟨rfl, hu.1, hu.2⟩))) i 2 (1 + (v : Int)) hi (Or.inr (Or.inr ⟨rfl, by omega, by omega⟩)), IT_zone (IT_zone hT i 1 u hi (by omega)) i 2 (1 + (v : Int)) hi (by omega), AC_zn (AC_zn hAC i 1 u hi (by omega)) i 2 (1 + (v : Int)) hi (by omega), (by rw [up_ne _ _ (by omega), up_ne _ _ (by omega)]; omega)⟩ (LR_z (LR_z hL (i := 5 * i + 1) (j0 := 6 + 5 * i + 1) (by omega) (by omega) rfl) (i := 5 * i + 2) (j0 := 6 + 5 * i + 2) (by omega) (by omega) rfl) hc hP hS (lv_sub hl [3, 6, 7, 8, 9, 10, 11, 12, 13, 14] rfl) hr1 hr2 kk
set_option maxHeartbeats 2000000 in
set_option maxRecDepth 100000 in
theorem case_solve {p : Program} {l : Launch} {e : Jvm.Env} {s : State} {m : MethodId} {args : Array Value} {below : List Frame} {meth : Method} {c : Code} {H : Heap} {locs : List Loc} {cells slots : Nat} {Q : State → Prop} {ls : Array Slot} {b L : Nat} {xs : Nat → Int32} {E : Env3} {γ α β : Nat → Nat} {A : Nat → Prop} (hC : LawC p l s m args meth c b L xs E γ α β A) (t : Nat) (ht : t < 50) {st : S} {sv : Nat → S} {n : Nat} {q z r a mm ee : S} (hLI : LI9 st n t) (hL : LR st q z r a mm ee) (hc : CP0 E γ α A st sv n H) (hP : va_P E.1 vwCl (lwW E β q z r a mm ee) H) (hS : va_S (fun q => s.heap.size ≤ q) s.heap H locs) {x y : Int32} {k : Nat} (hk : k < 36) {u : Int} (hu : 1 ≤ u ∧ u ≤ 99)
    (hl : lv_has ls 17 [(9, .int x), (10, .int y), (12, .int (I (k : Int))), (13, .int (I u)), (0, .ref b), (1, .ref (γ 0)), (2, .ref (β 0)), (3, .ref (β 1)), (4, .ref (β 2)), (5, .ref (β 3)), (6, .ref (β 4)), (7, .ref (β 5)), (8, .int (I (t : Int)))]) (hr1 : cells + 1633 ≤ room_1.cells) (hr2 : slots + 44070 ≤ room_1.slots)
    (kk : ∀ (H1 : Heap) (locs1 : List Loc) (ls1 : Array Slot), DynP s E γ α β A (t + 1) H1 locs1 → lv_has ls1 17 (lvT b γ β t) → W p l e room_1 s m args below meth c H1 locs1 (cells + 1633) (slots + 44070) Q (F0 m 738 ls1 [])) : W p l e room_1 s m args below meth c H locs cells slots Q (F0 m 566 ls []) := by
  obtain ⟨⟨hx, hb, hr, hml, hown, hlocks, hts⟩, ⟨hX, hbl, hL8⟩, ⟨hK, hKX, hZ, hl0⟩, ⟨hA, hA2, hAB, hβ⟩⟩ := id hC
  obtain ⟨hn, hI, hT, hAC, ht0⟩ := id hLI
  have hDn : ∀ q z r a mm ee : S, va_D (fun q => s.heap.size ≤ q) (lwW E β q z r a mm ee) := fun _ _ _ _ _ _ => (D_of_dR hβ rfl).weaken (fun _ _ _ h => hA2 _ (adB_in.mp h))
  have hrT := eT_0 hL hI hk
  have hmM := eM_0 hL hI hk
  have hb1 := (hI.2.2.2 k hk).1
  have hb2 := (hI.2.2.2 k hk).2
  unfold triT at hb1
  unfold triM at hb2
  have hTb := hI.1
  refine lv_aload_n hx hb dL_law_566 rfl (lv_lk hl rfl) ?_
  refine iv_iconst hx hb dL_law_567 ?_
  refine lv_dup2_11 hx hb dL_law_568 rfl rfl ?_
  refine iv_iald hx hb hK hP 0 rfl (1) (by omega) (by omega) dL_law_569 ?_
  refine iv_iconst hx hb dL_law_570 ?_
  refine iv_iadd hx hb dL_law_571 ?_
  refine iv_iastK hx hb hK hP (hDn _ _ _ _ _ _) hS 0 rfl (1) (by omega) (by omega) dL_law_572 (lwW E β (up q 1 (q 1 + 1)) z r a mm ee) (rfl) (fun H locs hP k1 k2 hS => ?_)
  have hc := CP_on _ _ hc k1 (fun q9 hq h9 => k2 q9 hq (fun h8 => hAB q9 h9 ⟨0, by omega, h8⟩))
  refine lv_aload_n hx hb dL_law_573 rfl (lv_lk hl rfl) ?_
  refine lv_iload hx hb dL_law_574 (lv_lk hl rfl) ?_
  refine call_P (va_runV ⟨hx, hb, hml, hown, hts⟩ (cp_W cp_bN (fun β9 ac fs fn hN => m_X5_solve_ok l E γ α β9 st sv ((0 : Nat) : Int) ac (fun _ => 0) fs fn hN n hn 9999 hI k hk)) (cwV 1 hts (gi_V ml_L_146 im_X5_solve sl_X5_solve it_X5 cd_X5_solve) rfl rfl rfl (by decide +kernel) ⟨Nat.le_of_ble_eq_true rfl, Nat.le_of_ble_eq_true rfl⟩) (pP_V hK hc (CP_0 _ hc) rfl) rfl rfl hl.1 rfl (lv_room (Nat.le_of_ble_eq_true rfl)) dL_law_576 ⟨by omega, by omega⟩) hA hS rfl (fun H locs k1 k2 hc hS => ?_)
  have hP : va_P E.1 vwCl (lwW E β (up q 1 (q 1 + 1)) z r a mm ee) H := P_onA (A := adB β) (fun y9 hy => adB_in.mp hy) hP (fun q9 hq h9 => k2 q9 hq (fun h8 => hAB q9 h8 h9))
  refine lv_iload hx hb dL_law_579 (lv_lk hl rfl) ?_
  refine lv_aload_n hx hb dL_law_581 rfl (lv_lk hl rfl) ?_
  refine lv_aload_n hx hb dL_law_582 rfl (lv_lk hl rfl) ?_
  refine lv_aload hx hb dL_law_583 (lv_lk hl rfl) ?_
  refine lv_aload hx hb dL_law_585 (lv_lk hl rfl) ?_
  refine lv_aload hx hb dL_law_587 (lv_lk hl rfl) ?_
  refine lv_aload hx hb dL_law_589 (lv_lk hl rfl) ?_
  have hI1 : IB 9999 (up st 1 (st 1 + 1)) := IB_free hI 1 _ (by omega)
  have hL1 : LR (up st 1 (st 1 + 1)) (up q 1 (q 1 + 1)) z r a mm ee := LR_q hL (by omega) (by rw [hL.1 1 (by omega)])
  refine call_P (va_runS ⟨hx, hb, hml, hown, hts⟩ (lw_X (m_L_solve l E β hβ 9999 (up st 1 (st 1 + 1)) (up q 1 (q 1 + 1)) z r a mm ee hI1 hL1 k hk)) (va_cwS 7 hts (gi_S ml_L_28 st_L_solve it_L cd_L_solve) rfl rfl rfl (by decide +kernel) ⟨Nat.le_of_ble_eq_true rfl, Nat.le_of_ble_eq_true rfl⟩) (pP_S hK hP) rfl rfl hl.1 rfl (lv_room (Nat.le_of_ble_eq_true rfl)) dL_law_591 ⟨by omega, by omega⟩) hA2 hS rfl (fun H locs k1 k2 hP hS => ?_)
  have hc := CP_on _ _ hc k1 (fun q9 hq h9 => k2 q9 hq (hAB q9 h9))
  obtain ⟨g, hP⟩ := hP
  have hP : va_P E.1 vwCl (lwW E β g.1.1 g.1.2.1 r a g.1.2.2.1 g.1.2.2.2) H := hP
  refine iv_eq ((solve1 st k).2) rfl ?_
  refine lv_icmp_eq (tgt := 715) hx hb dL_law_594 (by decide) (fun _ => ?_) (fun h9 => absurd rfl h9)
  exact law_tail hC t ⟨recN_le hn, IB_solvesF 7 hI1 hk, IT_solve1 hI hT hk, AC_solve1 hI hAC hk, (by rw [show (solvesF 7 (up st 1 (st 1 + 1)) k).1 0 = (up st 1 (st 1 + 1)) 0 from solves_0 7 hI1 hk, up_ne _ _ (by omega)]; omega)⟩ g.2 hc hP hS (lv_sub hl [1, 4, 5, 6, 7, 8, 9, 10, 11, 12] rfl) hr1 hr2 kk
set_option maxHeartbeats 2000000 in
set_option maxRecDepth 100000 in
theorem case_forget {p : Program} {l : Launch} {e : Jvm.Env} {s : State} {m : MethodId} {args : Array Value} {below : List Frame} {meth : Method} {c : Code} {H : Heap} {locs : List Loc} {cells slots : Nat} {Q : State → Prop} {ls : Array Slot} {b L : Nat} {xs : Nat → Int32} {E : Env3} {γ α β : Nat → Nat} {A : Nat → Prop} (hC : LawC p l s m args meth c b L xs E γ α β A) (t : Nat) (ht : t < 50) {st : S} {sv : Nat → S} {n : Nat} {q z r a mm ee : S} (hLI : LI9 st n t) (hL : LR st q z r a mm ee) (hc : CP0 E γ α A st sv n H) (hP : va_P E.1 vwCl (lwW E β q z r a mm ee) H) (hS : va_S (fun q => s.heap.size ≤ q) s.heap H locs) {x y : Int32} {k : Nat} (hk : k < 36) {u : Int} (hu : 1 ≤ u ∧ u ≤ 99)
    (hl : lv_has ls 17 [(9, .int x), (10, .int y), (12, .int (I (k : Int))), (13, .int (I u)), (0, .ref b), (1, .ref (γ 0)), (2, .ref (β 0)), (3, .ref (β 1)), (4, .ref (β 2)), (5, .ref (β 3)), (6, .ref (β 4)), (7, .ref (β 5)), (8, .int (I (t : Int)))]) (hr1 : cells + 1633 ≤ room_1.cells) (hr2 : slots + 44070 ≤ room_1.slots)
    (kk : ∀ (H1 : Heap) (locs1 : List Loc) (ls1 : Array Slot), DynP s E γ α β A (t + 1) H1 locs1 → lv_has ls1 17 (lvT b γ β t) → W p l e room_1 s m args below meth c H1 locs1 (cells + 1633) (slots + 44070) Q (F0 m 738 ls1 [])) : W p l e room_1 s m args below meth c H locs cells slots Q (F0 m 606 ls []) := by
  obtain ⟨⟨hx, hb, hr, hml, hown, hlocks, hts⟩, ⟨hX, hbl, hL8⟩, ⟨hK, hKX, hZ, hl0⟩, ⟨hA, hA2, hAB, hβ⟩⟩ := id hC
  obtain ⟨hn, hI, hT, hAC, ht0⟩ := id hLI
  have hDn : ∀ q z r a mm ee : S, va_D (fun q => s.heap.size ≤ q) (lwW E β q z r a mm ee) := fun _ _ _ _ _ _ => (D_of_dR hβ rfl).weaken (fun _ _ _ h => hA2 _ (adB_in.mp h))
  have hrT := eT_0 hL hI hk
  have hmM := eM_0 hL hI hk
  have hb1 := (hI.2.2.2 k hk).1
  have hb2 := (hI.2.2.2 k hk).2
  unfold triT at hb1
  unfold triM at hb2
  have hTb := hI.1
  refine lv_aload hx hb dL_law_606 (lv_lk hl rfl) ?_
  refine lv_iload hx hb dL_law_608 (lv_lk hl rfl) ?_
  refine iv_iald hx hb hK hP 4 rfl (k) (by omega) (by omega) dL_law_610 ?_
  refine iv_if_ne (tgt := 626) hx hb dL_law_611 (by decide) (by omega) (fun c_611 => ?_) (fun c_611 => ?_)
  · refine lv_aload hx hb dL_law_626 (lv_lk hl rfl) ?_
    refine lv_iload hx hb dL_law_628 (lv_lk hl rfl) ?_
    refine iv_iald hx hb hK hP 4 rfl (k) (by omega) (by omega) dL_law_630 ?_
    refine iv_sipush hx hb dL_law_631 (by decide +kernel) ?_
    refine iv_idiv hx hb dL_law_634 (st (36 + 6 * k + 3)) (by rw [dv_T (by omega)]; exact congrArg I (by omega)) (by omega) ?_
    refine lv_istore (lv' := [(14, .int (I _)), (9, .int _), (10, .int _), (12, .int (I _)), (13, .int (I _)), (0, .ref _), (1, .ref _), (2, .ref _), (3, .ref _), (4, .ref _), (5, .ref _), (6, .ref _), (7, .ref _), (8, .int (I _))]) hx hb dL_law_635 hl (by decide) rfl (fun ls hl => ?_)
    refine lv_aload hx hb dL_law_637 (lv_lk hl rfl) ?_
    refine lv_iload hx hb dL_law_639 (lv_lk hl rfl) ?_
    refine iv_iconst hx hb dL_law_641 ?_
    refine iv_iastK hx hb hK hP (hDn _ _ _ _ _ _) hS 4 rfl (k) (by omega) (by omega) dL_law_642 (lwW E β q z r a (up mm k 0) ee) (rfl) (fun H locs hP k1 k2 hS => ?_)
    have hc := CP_on _ _ hc k1 (fun q9 hq h9 => k2 q9 hq (fun h8 => hAB q9 h9 ⟨4, by omega, h8⟩))
    refine lv_aload_n hx hb dL_law_643 rfl (lv_lk hl rfl) ?_
    refine iv_iconst hx hb dL_law_644 ?_
    refine lv_dup2_11 hx hb dL_law_645 rfl rfl ?_
    refine iv_iald hx hb hK hP 0 rfl (5) (by omega) (by omega) dL_law_646 ?_
    refine iv_iconst hx hb dL_law_647 ?_
    refine iv_iadd hx hb dL_law_648 ?_
    refine iv_iastK hx hb hK hP (hDn _ _ _ _ _ _) hS 0 rfl (5) (by omega) (by omega) dL_law_649 (lwW E β (up q 5 (q 5 + 1)) z r a (up mm k 0) ee) (rfl) (fun H locs hP k1 k2 hS => ?_)
    have hc := CP_on _ _ hc k1 (fun q9 hq h9 => k2 q9 hq (fun h8 => hAB q9 h9 ⟨0, by omega, h8⟩))
    refine lv_aload_n hx hb dL_law_650 rfl (lv_lk hl rfl) ?_
    refine lv_iload hx hb dL_law_651 (lv_lk hl rfl) ?_
    refine call_P (va_runV ⟨hx, hb, hml, hown, hts⟩ (cp_W cp_bN (fun β9 ac fs fn hN => m_X5_forget_ok l E γ α β9 st sv ((0 : Nat) : Int) ac (fun _ => 0) fs fn hN n hn k hk (by omega) (by omega))) (cwV 1 hts (gi_V ml_L_119 im_X5_forget sl_X5_forget it_X5 cd_X5_forget) rfl rfl rfl (by decide +kernel) ⟨Nat.le_of_ble_eq_true rfl, Nat.le_of_ble_eq_true rfl⟩) (pP_V hK hc (CP_0 _ hc) rfl) rfl rfl hl.1 rfl (lv_room (Nat.le_of_ble_eq_true rfl)) dL_law_653 ⟨by omega, by omega⟩) hA hS rfl (fun H locs k1 k2 hc hS => ?_)
    have hP : va_P E.1 vwCl (lwW E β (up q 5 (q 5 + 1)) z r a (up mm k 0) ee) H := P_onA (A := adB β) (fun y9 hy => adB_in.mp hy) hP (fun q9 hq h9 => k2 q9 hq (fun h8 => hAB q9 h8 h9))
    refine lv_iload hx hb dL_law_656 (lv_lk hl rfl) ?_
    refine lv_icmp_eq (tgt := 663) hx hb dL_law_658 (by decide) (fun _ => ?_) (fun h9 => absurd rfl h9)
    refine lv_goto (tgt := 715) hx hb dL_law_663 (by decide) ?_
    exact law_tail hC t ⟨recN_le hn, IB_forg hI hk, IT_forg hT, AC_forg hI hAC hk (by omega), (by unfold forg forg3; rw [up_ne _ _ (by omega), up_ne _ _ (by omega), up_ne _ _ (by omega), up_ne _ _ (by omega)]; omega)⟩ (LR_forg hL hk) hc hP hS (lv_sub hl [2, 5, 6, 7, 8, 9, 10, 11, 12, 13] rfl) hr1 hr2 kk
  · refine lv_aload_n hx hb dL_law_614 rfl (lv_lk hl rfl) ?_
    refine iv_iconst hx hb dL_law_615 ?_
    refine lv_iload hx hb dL_law_616 (lv_lk hl rfl) ?_
    refine call_P (vx_runSW ⟨hx, hb, hml, hown, hts⟩ (m_L_refused_1 l hl0 E γ α A st sv n 0 (fun _ => 0) k hk (by omega)) (vx_cwSW 3 hts (gi_S ml_L_136 st_L_refused it_L cd_L_refused) rfl rfl rfl (by decide +kernel) ⟨Nat.le_of_ble_eq_true rfl, Nat.le_of_ble_eq_true rfl⟩) (pX_S hK hKX ((hZ.kept hS.2.1).narrow hA) hc) rfl rfl hl.1 rfl (lv_room (Nat.le_of_ble_eq_true rfl)) dL_law_618 ⟨by omega, by omega⟩) hA hS rfl (fun H locs k1 k2 hc hS => ?_)
    have hP : va_P E.1 vwCl (lwW E β q z r a mm ee) H := P_onA (A := adB β) (fun y9 hy => adB_in.mp hy) hP (fun q9 hq h9 => k2 q9 hq (fun h8 => hAB q9 h8 h9))
    refine iv_if_ne (tgt := 738) hx hb dL_law_621 (by decide) (by omega) (fun c_621 => ?_) (fun c_621 => by exfalso; omega)
    refine W.widen (k := cells + 1633) (n := slots + 44070) (by omega) (by omega) ?_
    exact kk _ _ _ ⟨st, sv, n, q, z, r, a, mm, ee, hLI.next, hL, hc, hP, hS⟩ (lv_sub hl [4, 5, 6, 7, 8, 9, 10, 11, 12] rfl)
set_option maxHeartbeats 2000000 in
set_option maxRecDepth 100000 in
theorem case_pass {p : Program} {l : Launch} {e : Jvm.Env} {s : State} {m : MethodId} {args : Array Value} {below : List Frame} {meth : Method} {c : Code} {H : Heap} {locs : List Loc} {cells slots : Nat} {Q : State → Prop} {ls : Array Slot} {b L : Nat} {xs : Nat → Int32} {E : Env3} {γ α β : Nat → Nat} {A : Nat → Prop} (hC : LawC p l s m args meth c b L xs E γ α β A) (t : Nat) (ht : t < 50) {st : S} {sv : Nat → S} {n : Nat} {q z r a mm ee : S} (hLI : LI9 st n t) (hL : LR st q z r a mm ee) (hc : CP0 E γ α A st sv n H) (hP : va_P E.1 vwCl (lwW E β q z r a mm ee) H) (hS : va_S (fun q => s.heap.size ≤ q) s.heap H locs) {x y : Int32} {k : Nat} (hk : k < 36) {u : Int} (hu : 1 ≤ u ∧ u ≤ 99)
    (hl : lv_has ls 17 [(9, .int x), (10, .int y), (12, .int (I (k : Int))), (13, .int (I u)), (0, .ref b), (1, .ref (γ 0)), (2, .ref (β 0)), (3, .ref (β 1)), (4, .ref (β 2)), (5, .ref (β 3)), (6, .ref (β 4)), (7, .ref (β 5)), (8, .int (I (t : Int)))]) (hr1 : cells + 1633 ≤ room_1.cells) (hr2 : slots + 44070 ≤ room_1.slots)
    (kk : ∀ (H1 : Heap) (locs1 : List Loc) (ls1 : Array Slot), DynP s E γ α β A (t + 1) H1 locs1 → lv_has ls1 17 (lvT b γ β t) → W p l e room_1 s m args below meth c H1 locs1 (cells + 1633) (slots + 44070) Q (F0 m 738 ls1 [])) : W p l e room_1 s m args below meth c H locs cells slots Q (F0 m 666 ls []) := by
  obtain ⟨⟨hx, hb, hr, hml, hown, hlocks, hts⟩, ⟨hX, hbl, hL8⟩, ⟨hK, hKX, hZ, hl0⟩, ⟨hA, hA2, hAB, hβ⟩⟩ := id hC
  obtain ⟨hn, hI, hT, hAC, ht0⟩ := id hLI
  have hDn : ∀ q z r a mm ee : S, va_D (fun q => s.heap.size ≤ q) (lwW E β q z r a mm ee) := fun _ _ _ _ _ _ => (D_of_dR hβ rfl).weaken (fun _ _ _ h => hA2 _ (adB_in.mp h))
  have hrT := eT_0 hL hI hk
  have hmM := eM_0 hL hI hk
  have hb1 := (hI.2.2.2 k hk).1
  have hb2 := (hI.2.2.2 k hk).2
  unfold triT at hb1
  unfold triM at hb2
  have hTb := hI.1
  have CUT687 : ∀ (w9 : Nat), (1 ≤ w9 ∧ w9 ≤ 60) → ∀ (H : Heap) (locs : List Loc) (ls : Array Slot), va_P E.1 vwCl (lwW E β q z r a mm ee) H → CP0 E γ α A st sv n H → va_S (fun q => s.heap.size ≤ q) s.heap H locs → lv_has ls 17 [(9, .int x), (10, .int y), (12, .int (I (k : Int))), (13, .int (I u)), (0, .ref b), (1, .ref (γ 0)), (2, .ref (β 0)), (3, .ref (β 1)), (4, .ref (β 2)), (5, .ref (β 3)), (6, .ref (β 4)), (7, .ref (β 5)), (8, .int (I (t : Int)))] → W p l e room_1 s m args below meth c H locs cells slots Q (F0 m 687 ls [.int (I ((w9 : Nat) : Int)), .int y, .int (I 1)]) := by
    intro w9 hw9 H locs ls hP hc hS hl
    refine call_E (va_runS ⟨hx, hb, hml, hown, hts⟩ (m_L_low l E _ w9 (by omega)) (va_cwS 2 hts (gi_S ml_L_73 st_L_low it_L cd_L_low) rfl rfl rfl (by decide +kernel) ⟨Nat.le_of_ble_eq_true rfl, Nat.le_of_ble_eq_true rfl⟩) (pR_S (hP.sub (ws' := []) [] rfl) hK) rfl rfl hl.1 rfl (lv_room (Nat.le_of_ble_eq_true rfl)) dL_law_687 ⟨by omega, by omega⟩) (fun _ h => h) hS (fun v9 locs hv9 hS => ?_)
    obtain ⟨v, hv, rfl⟩ := hv9
    refine iv_iadd hx hb dL_law_690 ?_
    refine lv_istore (lv' := [(14, .int (I _)), (9, .int _), (10, .int _), (12, .int (I _)), (13, .int (I _)), (0, .ref _), (1, .ref _), (2, .ref _), (3, .ref _), (4, .ref _), (5, .ref _), (6, .ref _), (7, .ref _), (8, .int (I _))]) hx hb dL_law_691 hl (by decide) rfl (fun ls hl => ?_)
    refine lv_aload_n hx hb dL_law_693 rfl (lv_lk hl rfl) ?_
    refine lv_iload hx hb dL_law_694 (lv_lk hl rfl) ?_
    refine call_P (va_runV ⟨hx, hb, hml, hown, hts⟩ (cp_W cp_bN (fun β9 ac fs fn hN => m_X5_pass_ok l E γ α β9 st sv ((0 : Nat) : Int) ac (fun _ => 0) fs fn hN n hn 9999 hI (1 + (v : Int)) (by omega) (by omega) (by omega))) (cwV 1 hts (gi_V ml_L_148 im_X5_pass sl_X5_pass it_X5 cd_X5_pass) rfl rfl rfl (by decide +kernel) ⟨Nat.le_of_ble_eq_true rfl, Nat.le_of_ble_eq_true rfl⟩) (pP_V hK hc (CP_0 _ hc) rfl) rfl rfl hl.1 rfl (lv_room (Nat.le_of_ble_eq_true rfl)) dL_law_696 ⟨by omega, by omega⟩) hA hS rfl (fun H locs k1 k2 hc hS => ?_)
    have hP : va_P E.1 vwCl (lwW E β q z r a mm ee) H := P_onA (A := adB β) (fun y9 hy => adB_in.mp hy) hP (fun q9 hq h9 => k2 q9 hq (fun h8 => hAB q9 h8 h9))
    refine lv_iload hx hb dL_law_699 (lv_lk hl rfl) ?_
    refine lv_aload_n hx hb dL_law_701 rfl (lv_lk hl rfl) ?_
    refine lv_aload_n hx hb dL_law_702 rfl (lv_lk hl rfl) ?_
    refine lv_aload hx hb dL_law_703 (lv_lk hl rfl) ?_
    refine lv_aload hx hb dL_law_705 (lv_lk hl rfl) ?_
    refine call_P (va_runS ⟨hx, hb, hml, hown, hts⟩ (lw_X (m_L_pass l E β hβ 9999 st q z r a mm ee hI hL (1 + (v : Int)) 10100 (by omega) (by omega))) (va_cwS 5 hts (gi_S ml_L_24 st_L_pass it_L cd_L_pass) rfl rfl rfl (by decide +kernel) ⟨Nat.le_of_ble_eq_true rfl, Nat.le_of_ble_eq_true rfl⟩) (pP_S hK hP) rfl rfl hl.1 rfl (lv_room (Nat.le_of_ble_eq_true rfl)) dL_law_707 ⟨by omega, by omega⟩) hA2 hS rfl (fun H locs k1 k2 hP hS => ?_)
    have hc := CP_on _ _ hc k1 (fun q9 hq h9 => k2 q9 hq (hAB q9 h9))
    obtain ⟨g, hP⟩ := hP
    have hP : va_P E.1 vwCl (lwW E β g.1.1 g.1.2.1 r a g.1.2.2.1 g.1.2.2.2) H := hP
    refine lv_icmp_eq (tgt := 715) hx hb dL_law_710 (by decide) (fun _ => ?_) (fun h9 => absurd rfl h9)
    exact law_tail hC t ⟨recN_le hn, IB_passes2 hI (1 + (v : Int)) (by omega) 9999 (by omega), IT_passes hT (by omega) (by omega), AC_passes hI hAC (t := 1 + (v : Int)) (by omega) 10100 (by omega), (by rw [passes_t]; omega)⟩ g.2 hc hP hS (lv_sub hl [2, 5, 6, 7, 8, 9, 10, 11, 12, 13] rfl) hr1 hr2 kk
  refine iv_iconst hx hb dL_law_666 ?_
  refine lv_iload hx hb dL_law_667 (lv_lk hl rfl) ?_
  refine lv_iload hx hb dL_law_669 (lv_lk hl rfl) ?_
  refine iv_iconst hx hb dL_law_671 ?_
  refine lv_ishr hx hb dL_law_672 ?_
  refine iv_iconst hx hb dL_law_673 ?_
  refine iv_eq (((4 : Nat) : Int)) rfl ?_
  refine call_E (va_runS ⟨hx, hb, hml, hown, hts⟩ (m_L_low l E _ 4 (by omega)) (va_cwS 2 hts (gi_S ml_L_73 st_L_low it_L cd_L_low) rfl rfl rfl (by decide +kernel) ⟨Nat.le_of_ble_eq_true rfl, Nat.le_of_ble_eq_true rfl⟩) (pR_S (hP.sub (ws' := []) [] rfl) hK) rfl rfl hl.1 rfl (lv_room (Nat.le_of_ble_eq_true rfl)) dL_law_674 ⟨by omega, by omega⟩) (fun _ h => h) hS (fun v9 locs hv9 hS => ?_)
  obtain ⟨v8, hv8, rfl⟩ := hv9
  refine iv_if_ne (tgt := 685) hx hb dL_law_677 (by decide) (by omega) (fun c_677 => ?_) (fun c_677 => ?_)
  · refine iv_bipush hx hb dL_law_685 (by decide +kernel) ?_
    refine iv_eq (((6 : Nat) : Int)) rfl ?_
    exact CUT687 6 (by omega) _ _ _ hP hc hS (lv_sub hl [0, 1, 2, 3, 4, 5, 6, 7, 8, 9, 10, 11, 12] rfl)
  · refine iv_bipush hx hb dL_law_680 (by decide +kernel) ?_
    refine lv_goto (tgt := 687) hx hb dL_law_682 (by decide) ?_
    refine iv_eq (((60 : Nat) : Int)) rfl ?_
    exact CUT687 60 (by omega) _ _ _ hP hc hS (lv_sub hl [0, 1, 2, 3, 4, 5, 6, 7, 8, 9, 10, 11, 12] rfl)
