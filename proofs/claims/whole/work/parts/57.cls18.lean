/-! the law's wrappers, told of predicates: where the face answers, and where it throws; written by cls18.py -/
theorem ZX.narrow {A B : Nat → Prop} {U : State} {H : Heap} (h : ZX A U H) (hAB : ∀ q, B q → A q) : ZX B U H := ⟨h.1.narrow hAB, h.2.narrow hAB⟩
theorem KX.word {s : State} {args : Array Value} (h : KX s) {w : Cond} (hw : w ∈ xW) : w.before args s = true :=
  va_tabs (by have := List.all_eq_true.mp xW_ok w hw; simp only [Bool.and_eq_true] at this; exact this.1) rfl (h.1 w hw)
theorem xc_IO : Cond.castable xIO xIO ∈ xW := of_decide_eq_true (by decide +kernel)
theorem xc_IA : Cond.castable xIA xIA ∈ xW := of_decide_eq_true (by decide +kernel)
theorem xc_IS : Cond.castable xIS xIS ∈ xW := of_decide_eq_true (by decide +kernel)
theorem outA.kept {E : Env3} {o : Nat} {H H1 : Heap} (h : outA E o H) (hq : H1[o]? = H[o]?) : outA E o H1 := by
  obtain ⟨v, f, h1, h2⟩ := h
  exact ⟨v, f, h1, h2.kept hq⟩
theorem outA.lt {E : Env3} {o : Nat} {H : Heap} (h : outA E o H) : o < H.size := by
  obtain ⟨v, f, h1, h2⟩ := h
  exact h2.lt
set_option maxHeartbeats 4000000 in
set_option maxRecDepth 100000 in
theorem w_setParent_ok (l : Launch) (E : Env3) (a o : Nat) (x1 x2 : Int32) (v : Int) (A : Nat → Prop) (Pin Po : Heap → Prop) (ha : ∀ H, Pin H → ∃ fs, va_at E.1 vwCl (a, .inr (5, fs)) H) (hoA : ¬ A o) (hin : onA A Po) (hM : Met l yX5_setParent (Cond.code yX5_setParent cX5_setParent 4 (some .int) :: ALL) ({ frames := 7, cells := 0, slots := 0, locals := 148 }) (pP [.ref a, .int x1, .int x2] E Pin) (qH (some (.int (I v))) A Po) 0 0 A) : Met l yL_setParent (Cond.codeWith yL_setParent cL_setParent 5 (some .int) [(0, 10, 13, 13), (0, 10, 17, 15)] :: ALL) ({ frames := 10, cells := 1, slots := 6, locals := 300 }) (pX [.ref a, .int x1, .int x2, .ref o] E (fun q => A q ∨ q = o) (fun H => Pin H ∧ outA E o H)) (qO E A o 0 (I v).toInt64 Po) 1 6 (fun q => A q ∨ q = o) := by
  refine mk_w (by decide) rfl (Nat.le_of_ble_eq_true rfl) ?_
  intro p e s m args below meth c hx hb hrt hml hts hown hlocks htb hK hKX hZ hI ls hl
  have hown : s.vm.findClass RL = some m.cls := hown
  have hl : lv_has ls 5 [(0, .ref a), (1, .int x1), (2, .int x2), (3, .ref o)] := hl
  obtain ⟨hI, hO⟩ := hI
  have hS : va_S (fun q => A q ∨ q = o) s.heap s.heap [] := va_S.rf
  refine lv_aload_n hx hb dL_setParent_0 rfl (lv_lk hl rfl) ?_
  refine iv_iconst hx hb dL_setParent_1 ?_
  refine lv_aload_n hx hb dL_setParent_2 rfl (lv_lk hl rfl) ?_
  refine lv_iload_n hx hb dL_setParent_3 rfl (lv_lk hl rfl) ?_
  refine lv_iload_n hx hb dL_setParent_4 rfl (lv_lk hl rfl) ?_
  refine call_P (va_runV ⟨hx, hb, hml, hown, hts⟩ hM (cwV 2 hts (gi_V ml_L_7 im_X5_setParent sl_X5_setParent it_X5 cd_X5_setParent) rfl rfl rfl (by decide +kernel) ⟨Nat.le_of_ble_eq_true rfl, Nat.le_of_ble_eq_true rfl⟩) (pP_V hK hI (ha _ hI) rfl) rfl rfl hl.1 rfl (lv_room (Nat.le_of_ble_eq_true rfl)) dL_setParent_5 ⟨Nat.le_of_ble_eq_true rfl, Nat.le_of_ble_eq_true rfl⟩) (fun q h9 => Or.inl h9) hS rfl (fun H locs k1 k2 hPo hS => ?_)
  obtain ⟨v0, hO⟩ := hO.kept (k2 o hO.lt hoA)
  refine lv_i2l hx hb dL_setParent_8 rfl ?_
  refine x_last hx hb hK hO (Or.inr rfl) hS dL_setParent_9 (fun H1 locs hO1 z1 oq hS => ?_)
  refine lv_goto (tgt := 21) hx hb dL_setParent_10 (by decide) ?_
  refine iv_iconst hx hb dL_setParent_21 ?_
  refine W.widen (k := 1) (n := 6) (Nat.le_of_ble_eq_true rfl) (Nat.le_of_ble_eq_true rfl) ?_
  exact W.iret hx hb hrt (fun t ht hW => ⟨rfl, by rw [ht]; exact hin _ _ hPo (by omega) (fun q _ hq => oq q (fun e9 => hoA (e9 ▸ hq))), ⟨_, by rw [ht]; exact hO1, fun _ => rfl⟩, hS.F ht⟩) hS.2.2 dL_setParent_22 hlocks
set_option maxHeartbeats 4000000 in
set_option maxRecDepth 100000 in
theorem w_setParent_x1 (l : Launch) (E : Env3) (a o : Nat) (x1 x2 : Int32) (A1 : Nat → Prop) (Pin1 Po1 : Heap → Prop) (A : Nat → Prop) (Pin Po : Heap → Prop) (ha : ∀ H, Pin H → ∃ fs, va_at E.1 vwCl (a, .inr (5, fs)) H) (hoA : ¬ A o) (hA1 : ∀ q, A1 q → A q) (h1 : ∀ H, Pin H → Pin1 H) (hPo : ∀ H H1 : Heap, Pin H → H.size ≤ H1.size → (∀ q : Nat, q < H.size → ¬ A1 q → H1[q]? = H[q]?) → Po1 H1 → Po H1) (hM : vx_Met l yX5_setParent (Cond.code yX5_setParent cX5_setParent 4 (some .int) :: ALL) ({ frames := 7, cells := 1, slots := 6, locals := 148 }) (pX [.ref a, .int x1, .int x2] E A1 Pin1) qF (xT xIO A1 Po1) 1 6 A1) : Met l yL_setParent (Cond.codeWith yL_setParent cL_setParent 5 (some .int) [(0, 10, 13, 13), (0, 10, 17, 15)] :: ALL) ({ frames := 10, cells := 1, slots := 6, locals := 300 }) (pX [.ref a, .int x1, .int x2, .ref o] E (fun q => A q ∨ q = o) (fun H => Pin H ∧ outA E o H)) (qO E A o 1 0 Po) 1 6 (fun q => A q ∨ q = o) := by
  refine mk_w (by decide) rfl (Nat.le_of_ble_eq_true rfl) ?_
  intro p e s m args below meth c hx hb hrt hml hts hown hlocks htb hK hKX hZ hI ls hl
  have hown : s.vm.findClass RL = some m.cls := hown
  have hl : lv_has ls 5 [(0, .ref a), (1, .int x1), (2, .int x2), (3, .ref o)] := hl
  obtain ⟨hI, hO⟩ := hI
  have hS : va_S (fun q => A q ∨ q = o) s.heap s.heap [] := va_S.rf
  refine lv_aload_n hx hb dL_setParent_0 rfl (lv_lk hl rfl) ?_
  refine iv_iconst hx hb dL_setParent_1 ?_
  refine lv_aload_n hx hb dL_setParent_2 rfl (lv_lk hl rfl) ?_
  refine lv_iload_n hx hb dL_setParent_3 rfl (lv_lk hl rfl) ?_
  refine lv_iload_n hx hb dL_setParent_4 rfl (lv_lk hl rfl) ?_
  refine x_callC (own := RL) (name := xIO) (vx_runV ⟨hx, hb, hml, hown, hts⟩ hM (cwV 2 hts (gi_V ml_L_7 im_X5_setParent sl_X5_setParent it_X5 cd_X5_setParent) rfl rfl rfl (by decide +kernel) ⟨Nat.le_of_ble_eq_true rfl, Nat.le_of_ble_eq_true rfl⟩) (by obtain ⟨fs, h9⟩ := ha _ hI; exact pX_V hK hKX (hZ.narrow (fun q h9 => Or.inl (hA1 q h9))) (h1 _ hI) h9 rfl) rfl rfl hl.1 rfl (lv_room (Nat.le_of_ble_eq_true rfl)) dL_setParent_5 ⟨Nat.le_of_ble_eq_true rfl, Nat.le_of_ble_eq_true rfl⟩) (fun q h9 => Or.inl (hA1 q h9)) hS hown [] ⟨0, 10, 13, 13⟩ [⟨0, 10, 17, 15⟩] htb (fun z hz => nomatch hz) rfl (by decide) (hts _ cl_L_13) (hKX.word xc_IO) (fun q H locs k1 k2 hp1 hS => ?_)
  refine lv_astore (lv' := [(4, .ref q), (0, .ref a), (1, .int x1), (2, .int x2), (3, .ref o)]) hx hb dL_setParent_13 hl (by decide) rfl (fun ls hl => ?_)
  refine iv_iconst hx hb dL_setParent_15 ?_
  obtain ⟨v0, hO⟩ := hO.kept (k2 o hO.lt (fun h9 => hoA (hA1 o h9)))
  exact W.iret hx hb hrt (fun t ht hW => ⟨rfl, by rw [ht]; exact hPo _ _ hI k1 k2 hp1, ⟨v0, by rw [ht]; exact hO, fun h9 => by exfalso; omega⟩, hS.F ht⟩) hS.2.2 dL_setParent_16 hlocks
set_option maxHeartbeats 4000000 in
set_option maxRecDepth 100000 in
theorem w_setParent_x2 (l : Launch) (E : Env3) (a o : Nat) (x1 x2 : Int32) (A1 : Nat → Prop) (Pin1 Po1 : Heap → Prop) (A : Nat → Prop) (Pin Po : Heap → Prop) (ha : ∀ H, Pin H → ∃ fs, va_at E.1 vwCl (a, .inr (5, fs)) H) (hoA : ¬ A o) (hA1 : ∀ q, A1 q → A q) (h1 : ∀ H, Pin H → Pin1 H) (hPo : ∀ H H1 : Heap, Pin H → H.size ≤ H1.size → (∀ q : Nat, q < H.size → ¬ A1 q → H1[q]? = H[q]?) → Po1 H1 → Po H1) (hM : vx_Met l yX5_setParent (Cond.code yX5_setParent cX5_setParent 4 (some .int) :: ALL) ({ frames := 7, cells := 1, slots := 6, locals := 148 }) (pX [.ref a, .int x1, .int x2] E A1 Pin1) qF (xT xIA A1 Po1) 1 6 A1) : Met l yL_setParent (Cond.codeWith yL_setParent cL_setParent 5 (some .int) [(0, 10, 13, 13), (0, 10, 17, 15)] :: ALL) ({ frames := 10, cells := 1, slots := 6, locals := 300 }) (pX [.ref a, .int x1, .int x2, .ref o] E (fun q => A q ∨ q = o) (fun H => Pin H ∧ outA E o H)) (qO E A o 2 0 Po) 1 6 (fun q => A q ∨ q = o) := by
  refine mk_w (by decide) rfl (Nat.le_of_ble_eq_true rfl) ?_
  intro p e s m args below meth c hx hb hrt hml hts hown hlocks htb hK hKX hZ hI ls hl
  have hown : s.vm.findClass RL = some m.cls := hown
  have hl : lv_has ls 5 [(0, .ref a), (1, .int x1), (2, .int x2), (3, .ref o)] := hl
  obtain ⟨hI, hO⟩ := hI
  have hS : va_S (fun q => A q ∨ q = o) s.heap s.heap [] := va_S.rf
  refine lv_aload_n hx hb dL_setParent_0 rfl (lv_lk hl rfl) ?_
  refine iv_iconst hx hb dL_setParent_1 ?_
  refine lv_aload_n hx hb dL_setParent_2 rfl (lv_lk hl rfl) ?_
  refine lv_iload_n hx hb dL_setParent_3 rfl (lv_lk hl rfl) ?_
  refine lv_iload_n hx hb dL_setParent_4 rfl (lv_lk hl rfl) ?_
  refine x_callC (own := RL) (name := xIA) (vx_runV ⟨hx, hb, hml, hown, hts⟩ hM (cwV 2 hts (gi_V ml_L_7 im_X5_setParent sl_X5_setParent it_X5 cd_X5_setParent) rfl rfl rfl (by decide +kernel) ⟨Nat.le_of_ble_eq_true rfl, Nat.le_of_ble_eq_true rfl⟩) (by obtain ⟨fs, h9⟩ := ha _ hI; exact pX_V hK hKX (hZ.narrow (fun q h9 => Or.inl (hA1 q h9))) (h1 _ hI) h9 rfl) rfl rfl hl.1 rfl (lv_room (Nat.le_of_ble_eq_true rfl)) dL_setParent_5 ⟨Nat.le_of_ble_eq_true rfl, Nat.le_of_ble_eq_true rfl⟩) (fun q h9 => Or.inl (hA1 q h9)) hS hown [⟨0, 10, 13, 13⟩] ⟨0, 10, 17, 15⟩ [] htb (fun z hz => by cases List.mem_singleton.mp hz; exact Or.inr ⟨by decide, xIO, hts _ cl_L_13, hKX.2.2 (xIA, xIO) (List.mem_of_getElem? (i := 0) rfl)⟩) rfl (by decide) (hts _ cl_L_15) (hKX.word xc_IA) (fun q H locs k1 k2 hp1 hS => ?_)
  refine lv_astore (lv' := [(4, .ref q), (0, .ref a), (1, .int x1), (2, .int x2), (3, .ref o)]) hx hb dL_setParent_17 hl (by decide) rfl (fun ls hl => ?_)
  refine iv_iconst hx hb dL_setParent_19 ?_
  obtain ⟨v0, hO⟩ := hO.kept (k2 o hO.lt (fun h9 => hoA (hA1 o h9)))
  exact W.iret hx hb hrt (fun t ht hW => ⟨rfl, by rw [ht]; exact hPo _ _ hI k1 k2 hp1, ⟨v0, by rw [ht]; exact hO, fun h9 => by exfalso; omega⟩, hS.F ht⟩) hS.2.2 dL_setParent_20 hlocks
set_option maxHeartbeats 4000000 in
set_option maxRecDepth 100000 in
theorem w_setAges_ok (l : Launch) (E : Env3) (a o : Nat) (x1 x2 x3 : Int32) (v : Int) (A : Nat → Prop) (Pin Po : Heap → Prop) (ha : ∀ H, Pin H → ∃ fs, va_at E.1 vwCl (a, .inr (5, fs)) H) (hoA : ¬ A o) (hin : onA A Po) (hM : Met l yX5_setAges (Cond.code yX5_setAges cX5_setAges 5 (some .int) :: ALL) ({ frames := 7, cells := 0, slots := 0, locals := 148 }) (pP [.ref a, .int x1, .int x2, .int x3] E Pin) (qH (some (.int (I v))) A Po) 0 0 A) : Met l yL_setAges (Cond.codeWith yL_setAges cL_setAges 6 (some .int) [(0, 12, 15, 13), (0, 12, 19, 15)] :: ALL) ({ frames := 10, cells := 1, slots := 6, locals := 300 }) (pX [.ref a, .int x1, .int x2, .int x3, .ref o] E (fun q => A q ∨ q = o) (fun H => Pin H ∧ outA E o H)) (qO E A o 0 (I v).toInt64 Po) 1 6 (fun q => A q ∨ q = o) := by
  refine mk_w (by decide) rfl (Nat.le_of_ble_eq_true rfl) ?_
  intro p e s m args below meth c hx hb hrt hml hts hown hlocks htb hK hKX hZ hI ls hl
  have hown : s.vm.findClass RL = some m.cls := hown
  have hl : lv_has ls 6 [(0, .ref a), (1, .int x1), (2, .int x2), (3, .int x3), (4, .ref o)] := hl
  obtain ⟨hI, hO⟩ := hI
  have hS : va_S (fun q => A q ∨ q = o) s.heap s.heap [] := va_S.rf
  refine lv_aload hx hb dL_setAges_0 (lv_lk hl rfl) ?_
  refine iv_iconst hx hb dL_setAges_2 ?_
  refine lv_aload_n hx hb dL_setAges_3 rfl (lv_lk hl rfl) ?_
  refine lv_iload_n hx hb dL_setAges_4 rfl (lv_lk hl rfl) ?_
  refine lv_iload_n hx hb dL_setAges_5 rfl (lv_lk hl rfl) ?_
  refine lv_iload_n hx hb dL_setAges_6 rfl (lv_lk hl rfl) ?_
  refine call_P (va_runV ⟨hx, hb, hml, hown, hts⟩ hM (cwV 3 hts (gi_V ml_L_17 im_X5_setAges sl_X5_setAges it_X5 cd_X5_setAges) rfl rfl rfl (by decide +kernel) ⟨Nat.le_of_ble_eq_true rfl, Nat.le_of_ble_eq_true rfl⟩) (pP_V hK hI (ha _ hI) rfl) rfl rfl hl.1 rfl (lv_room (Nat.le_of_ble_eq_true rfl)) dL_setAges_7 ⟨Nat.le_of_ble_eq_true rfl, Nat.le_of_ble_eq_true rfl⟩) (fun q h9 => Or.inl h9) hS rfl (fun H locs k1 k2 hPo hS => ?_)
  obtain ⟨v0, hO⟩ := hO.kept (k2 o hO.lt hoA)
  refine lv_i2l hx hb dL_setAges_10 rfl ?_
  refine x_last hx hb hK hO (Or.inr rfl) hS dL_setAges_11 (fun H1 locs hO1 z1 oq hS => ?_)
  refine lv_goto (tgt := 23) hx hb dL_setAges_12 (by decide) ?_
  refine iv_iconst hx hb dL_setAges_23 ?_
  refine W.widen (k := 1) (n := 6) (Nat.le_of_ble_eq_true rfl) (Nat.le_of_ble_eq_true rfl) ?_
  exact W.iret hx hb hrt (fun t ht hW => ⟨rfl, by rw [ht]; exact hin _ _ hPo (by omega) (fun q _ hq => oq q (fun e9 => hoA (e9 ▸ hq))), ⟨_, by rw [ht]; exact hO1, fun _ => rfl⟩, hS.F ht⟩) hS.2.2 dL_setAges_24 hlocks
set_option maxHeartbeats 4000000 in
set_option maxRecDepth 100000 in
theorem w_setAges_x1 (l : Launch) (E : Env3) (a o : Nat) (x1 x2 x3 : Int32) (A1 : Nat → Prop) (Pin1 Po1 : Heap → Prop) (A : Nat → Prop) (Pin Po : Heap → Prop) (ha : ∀ H, Pin H → ∃ fs, va_at E.1 vwCl (a, .inr (5, fs)) H) (hoA : ¬ A o) (hA1 : ∀ q, A1 q → A q) (h1 : ∀ H, Pin H → Pin1 H) (hPo : ∀ H H1 : Heap, Pin H → H.size ≤ H1.size → (∀ q : Nat, q < H.size → ¬ A1 q → H1[q]? = H[q]?) → Po1 H1 → Po H1) (hM : vx_Met l yX5_setAges (Cond.code yX5_setAges cX5_setAges 5 (some .int) :: ALL) ({ frames := 7, cells := 1, slots := 6, locals := 148 }) (pX [.ref a, .int x1, .int x2, .int x3] E A1 Pin1) qF (xT xIO A1 Po1) 1 6 A1) : Met l yL_setAges (Cond.codeWith yL_setAges cL_setAges 6 (some .int) [(0, 12, 15, 13), (0, 12, 19, 15)] :: ALL) ({ frames := 10, cells := 1, slots := 6, locals := 300 }) (pX [.ref a, .int x1, .int x2, .int x3, .ref o] E (fun q => A q ∨ q = o) (fun H => Pin H ∧ outA E o H)) (qO E A o 1 0 Po) 1 6 (fun q => A q ∨ q = o) := by
  refine mk_w (by decide) rfl (Nat.le_of_ble_eq_true rfl) ?_
  intro p e s m args below meth c hx hb hrt hml hts hown hlocks htb hK hKX hZ hI ls hl
  have hown : s.vm.findClass RL = some m.cls := hown
  have hl : lv_has ls 6 [(0, .ref a), (1, .int x1), (2, .int x2), (3, .int x3), (4, .ref o)] := hl
  obtain ⟨hI, hO⟩ := hI
  have hS : va_S (fun q => A q ∨ q = o) s.heap s.heap [] := va_S.rf
  refine lv_aload hx hb dL_setAges_0 (lv_lk hl rfl) ?_
  refine iv_iconst hx hb dL_setAges_2 ?_
  refine lv_aload_n hx hb dL_setAges_3 rfl (lv_lk hl rfl) ?_
  refine lv_iload_n hx hb dL_setAges_4 rfl (lv_lk hl rfl) ?_
  refine lv_iload_n hx hb dL_setAges_5 rfl (lv_lk hl rfl) ?_
  refine lv_iload_n hx hb dL_setAges_6 rfl (lv_lk hl rfl) ?_
  refine x_callC (own := RL) (name := xIO) (vx_runV ⟨hx, hb, hml, hown, hts⟩ hM (cwV 3 hts (gi_V ml_L_17 im_X5_setAges sl_X5_setAges it_X5 cd_X5_setAges) rfl rfl rfl (by decide +kernel) ⟨Nat.le_of_ble_eq_true rfl, Nat.le_of_ble_eq_true rfl⟩) (by obtain ⟨fs, h9⟩ := ha _ hI; exact pX_V hK hKX (hZ.narrow (fun q h9 => Or.inl (hA1 q h9))) (h1 _ hI) h9 rfl) rfl rfl hl.1 rfl (lv_room (Nat.le_of_ble_eq_true rfl)) dL_setAges_7 ⟨Nat.le_of_ble_eq_true rfl, Nat.le_of_ble_eq_true rfl⟩) (fun q h9 => Or.inl (hA1 q h9)) hS hown [] ⟨0, 12, 15, 13⟩ [⟨0, 12, 19, 15⟩] htb (fun z hz => nomatch hz) rfl (by decide) (hts _ cl_L_13) (hKX.word xc_IO) (fun q H locs k1 k2 hp1 hS => ?_)
  refine lv_astore (lv' := [(5, .ref q), (0, .ref a), (1, .int x1), (2, .int x2), (3, .int x3), (4, .ref o)]) hx hb dL_setAges_15 hl (by decide) rfl (fun ls hl => ?_)
  refine iv_iconst hx hb dL_setAges_17 ?_
  obtain ⟨v0, hO⟩ := hO.kept (k2 o hO.lt (fun h9 => hoA (hA1 o h9)))
  exact W.iret hx hb hrt (fun t ht hW => ⟨rfl, by rw [ht]; exact hPo _ _ hI k1 k2 hp1, ⟨v0, by rw [ht]; exact hO, fun h9 => by exfalso; omega⟩, hS.F ht⟩) hS.2.2 dL_setAges_18 hlocks
set_option maxHeartbeats 4000000 in
set_option maxRecDepth 100000 in
theorem w_setAges_x2 (l : Launch) (E : Env3) (a o : Nat) (x1 x2 x3 : Int32) (A1 : Nat → Prop) (Pin1 Po1 : Heap → Prop) (A : Nat → Prop) (Pin Po : Heap → Prop) (ha : ∀ H, Pin H → ∃ fs, va_at E.1 vwCl (a, .inr (5, fs)) H) (hoA : ¬ A o) (hA1 : ∀ q, A1 q → A q) (h1 : ∀ H, Pin H → Pin1 H) (hPo : ∀ H H1 : Heap, Pin H → H.size ≤ H1.size → (∀ q : Nat, q < H.size → ¬ A1 q → H1[q]? = H[q]?) → Po1 H1 → Po H1) (hM : vx_Met l yX5_setAges (Cond.code yX5_setAges cX5_setAges 5 (some .int) :: ALL) ({ frames := 7, cells := 1, slots := 6, locals := 148 }) (pX [.ref a, .int x1, .int x2, .int x3] E A1 Pin1) qF (xT xIA A1 Po1) 1 6 A1) : Met l yL_setAges (Cond.codeWith yL_setAges cL_setAges 6 (some .int) [(0, 12, 15, 13), (0, 12, 19, 15)] :: ALL) ({ frames := 10, cells := 1, slots := 6, locals := 300 }) (pX [.ref a, .int x1, .int x2, .int x3, .ref o] E (fun q => A q ∨ q = o) (fun H => Pin H ∧ outA E o H)) (qO E A o 2 0 Po) 1 6 (fun q => A q ∨ q = o) := by
  refine mk_w (by decide) rfl (Nat.le_of_ble_eq_true rfl) ?_
  intro p e s m args below meth c hx hb hrt hml hts hown hlocks htb hK hKX hZ hI ls hl
  have hown : s.vm.findClass RL = some m.cls := hown
  have hl : lv_has ls 6 [(0, .ref a), (1, .int x1), (2, .int x2), (3, .int x3), (4, .ref o)] := hl
  obtain ⟨hI, hO⟩ := hI
  have hS : va_S (fun q => A q ∨ q = o) s.heap s.heap [] := va_S.rf
  refine lv_aload hx hb dL_setAges_0 (lv_lk hl rfl) ?_
  refine iv_iconst hx hb dL_setAges_2 ?_
  refine lv_aload_n hx hb dL_setAges_3 rfl (lv_lk hl rfl) ?_
  refine lv_iload_n hx hb dL_setAges_4 rfl (lv_lk hl rfl) ?_
  refine lv_iload_n hx hb dL_setAges_5 rfl (lv_lk hl rfl) ?_
  refine lv_iload_n hx hb dL_setAges_6 rfl (lv_lk hl rfl) ?_
  refine x_callC (own := RL) (name := xIA) (vx_runV ⟨hx, hb, hml, hown, hts⟩ hM (cwV 3 hts (gi_V ml_L_17 im_X5_setAges sl_X5_setAges it_X5 cd_X5_setAges) rfl rfl rfl (by decide +kernel) ⟨Nat.le_of_ble_eq_true rfl, Nat.le_of_ble_eq_true rfl⟩) (by obtain ⟨fs, h9⟩ := ha _ hI; exact pX_V hK hKX (hZ.narrow (fun q h9 => Or.inl (hA1 q h9))) (h1 _ hI) h9 rfl) rfl rfl hl.1 rfl (lv_room (Nat.le_of_ble_eq_true rfl)) dL_setAges_7 ⟨Nat.le_of_ble_eq_true rfl, Nat.le_of_ble_eq_true rfl⟩) (fun q h9 => Or.inl (hA1 q h9)) hS hown [⟨0, 12, 15, 13⟩] ⟨0, 12, 19, 15⟩ [] htb (fun z hz => by cases List.mem_singleton.mp hz; exact Or.inr ⟨by decide, xIO, hts _ cl_L_13, hKX.2.2 (xIA, xIO) (List.mem_of_getElem? (i := 0) rfl)⟩) rfl (by decide) (hts _ cl_L_15) (hKX.word xc_IA) (fun q H locs k1 k2 hp1 hS => ?_)
  refine lv_astore (lv' := [(5, .ref q), (0, .ref a), (1, .int x1), (2, .int x2), (3, .int x3), (4, .ref o)]) hx hb dL_setAges_19 hl (by decide) rfl (fun ls hl => ?_)
  refine iv_iconst hx hb dL_setAges_21 ?_
  obtain ⟨v0, hO⟩ := hO.kept (k2 o hO.lt (fun h9 => hoA (hA1 o h9)))
  exact W.iret hx hb hrt (fun t ht hW => ⟨rfl, by rw [ht]; exact hPo _ _ hI k1 k2 hp1, ⟨v0, by rw [ht]; exact hO, fun h9 => by exfalso; omega⟩, hS.F ht⟩) hS.2.2 dL_setAges_22 hlocks
set_option maxHeartbeats 4000000 in
set_option maxRecDepth 100000 in
theorem w_setAnswer_ok (l : Launch) (E : Env3) (a o : Nat) (x1 x2 x3 : Int32) (v : Int) (A : Nat → Prop) (Pin Po : Heap → Prop) (ha : ∀ H, Pin H → ∃ fs, va_at E.1 vwCl (a, .inr (5, fs)) H) (hoA : ¬ A o) (hin : onA A Po) (hM : Met l yX5_setAnswer (Cond.code yX5_setAnswer cX5_setAnswer 4 (some .int) :: ALL) ({ frames := 7, cells := 0, slots := 0, locals := 173 }) (pP [.ref a, .int x1, .int x2, .int x3] E Pin) (qH (some (.int (I v))) A Po) 0 0 A) : Met l yL_setAnswer (Cond.codeWith yL_setAnswer cL_setAnswer 6 (some .int) [(0, 12, 15, 13), (0, 12, 19, 15)] :: ALL) ({ frames := 10, cells := 1, slots := 6, locals := 300 }) (pX [.ref a, .int x1, .int x2, .int x3, .ref o] E (fun q => A q ∨ q = o) (fun H => Pin H ∧ outA E o H)) (qO E A o 0 (I v).toInt64 Po) 1 6 (fun q => A q ∨ q = o) := by
  refine mk_w (by decide) rfl (Nat.le_of_ble_eq_true rfl) ?_
  intro p e s m args below meth c hx hb hrt hml hts hown hlocks htb hK hKX hZ hI ls hl
  have hown : s.vm.findClass RL = some m.cls := hown
  have hl : lv_has ls 6 [(0, .ref a), (1, .int x1), (2, .int x2), (3, .int x3), (4, .ref o)] := hl
  obtain ⟨hI, hO⟩ := hI
  have hS : va_S (fun q => A q ∨ q = o) s.heap s.heap [] := va_S.rf
  refine lv_aload hx hb dL_setAnswer_0 (lv_lk hl rfl) ?_
  refine iv_iconst hx hb dL_setAnswer_2 ?_
  refine lv_aload_n hx hb dL_setAnswer_3 rfl (lv_lk hl rfl) ?_
  refine lv_iload_n hx hb dL_setAnswer_4 rfl (lv_lk hl rfl) ?_
  refine lv_iload_n hx hb dL_setAnswer_5 rfl (lv_lk hl rfl) ?_
  refine lv_iload_n hx hb dL_setAnswer_6 rfl (lv_lk hl rfl) ?_
  refine call_P (va_runV ⟨hx, hb, hml, hown, hts⟩ hM (cwV 3 hts (gi_V ml_L_21 im_X5_setAnswer sl_X5_setAnswer it_X5 cd_X5_setAnswer) rfl rfl rfl (by decide +kernel) ⟨Nat.le_of_ble_eq_true rfl, Nat.le_of_ble_eq_true rfl⟩) (pP_V hK hI (ha _ hI) rfl) rfl rfl hl.1 rfl (lv_room (Nat.le_of_ble_eq_true rfl)) dL_setAnswer_7 ⟨Nat.le_of_ble_eq_true rfl, Nat.le_of_ble_eq_true rfl⟩) (fun q h9 => Or.inl h9) hS rfl (fun H locs k1 k2 hPo hS => ?_)
  obtain ⟨v0, hO⟩ := hO.kept (k2 o hO.lt hoA)
  refine lv_i2l hx hb dL_setAnswer_10 rfl ?_
  refine x_last hx hb hK hO (Or.inr rfl) hS dL_setAnswer_11 (fun H1 locs hO1 z1 oq hS => ?_)
  refine lv_goto (tgt := 23) hx hb dL_setAnswer_12 (by decide) ?_
  refine iv_iconst hx hb dL_setAnswer_23 ?_
  refine W.widen (k := 1) (n := 6) (Nat.le_of_ble_eq_true rfl) (Nat.le_of_ble_eq_true rfl) ?_
  exact W.iret hx hb hrt (fun t ht hW => ⟨rfl, by rw [ht]; exact hin _ _ hPo (by omega) (fun q _ hq => oq q (fun e9 => hoA (e9 ▸ hq))), ⟨_, by rw [ht]; exact hO1, fun _ => rfl⟩, hS.F ht⟩) hS.2.2 dL_setAnswer_24 hlocks
set_option maxHeartbeats 4000000 in
set_option maxRecDepth 100000 in
theorem w_setAnswer_x1 (l : Launch) (E : Env3) (a o : Nat) (x1 x2 x3 : Int32) (A1 : Nat → Prop) (Pin1 Po1 : Heap → Prop) (A : Nat → Prop) (Pin Po : Heap → Prop) (ha : ∀ H, Pin H → ∃ fs, va_at E.1 vwCl (a, .inr (5, fs)) H) (hoA : ¬ A o) (hA1 : ∀ q, A1 q → A q) (h1 : ∀ H, Pin H → Pin1 H) (hPo : ∀ H H1 : Heap, Pin H → H.size ≤ H1.size → (∀ q : Nat, q < H.size → ¬ A1 q → H1[q]? = H[q]?) → Po1 H1 → Po H1) (hM : vx_Met l yX5_setAnswer (Cond.code yX5_setAnswer cX5_setAnswer 4 (some .int) :: ALL) ({ frames := 7, cells := 1, slots := 6, locals := 173 }) (pX [.ref a, .int x1, .int x2, .int x3] E A1 Pin1) qF (xT xIO A1 Po1) 1 6 A1) : Met l yL_setAnswer (Cond.codeWith yL_setAnswer cL_setAnswer 6 (some .int) [(0, 12, 15, 13), (0, 12, 19, 15)] :: ALL) ({ frames := 10, cells := 1, slots := 6, locals := 300 }) (pX [.ref a, .int x1, .int x2, .int x3, .ref o] E (fun q => A q ∨ q = o) (fun H => Pin H ∧ outA E o H)) (qO E A o 1 0 Po) 1 6 (fun q => A q ∨ q = o) := by
  refine mk_w (by decide) rfl (Nat.le_of_ble_eq_true rfl) ?_
  intro p e s m args below meth c hx hb hrt hml hts hown hlocks htb hK hKX hZ hI ls hl
  have hown : s.vm.findClass RL = some m.cls := hown
  have hl : lv_has ls 6 [(0, .ref a), (1, .int x1), (2, .int x2), (3, .int x3), (4, .ref o)] := hl
  obtain ⟨hI, hO⟩ := hI
  have hS : va_S (fun q => A q ∨ q = o) s.heap s.heap [] := va_S.rf
  refine lv_aload hx hb dL_setAnswer_0 (lv_lk hl rfl) ?_
  refine iv_iconst hx hb dL_setAnswer_2 ?_
  refine lv_aload_n hx hb dL_setAnswer_3 rfl (lv_lk hl rfl) ?_
  refine lv_iload_n hx hb dL_setAnswer_4 rfl (lv_lk hl rfl) ?_
  refine lv_iload_n hx hb dL_setAnswer_5 rfl (lv_lk hl rfl) ?_
  refine lv_iload_n hx hb dL_setAnswer_6 rfl (lv_lk hl rfl) ?_
  refine x_callC (own := RL) (name := xIO) (vx_runV ⟨hx, hb, hml, hown, hts⟩ hM (cwV 3 hts (gi_V ml_L_21 im_X5_setAnswer sl_X5_setAnswer it_X5 cd_X5_setAnswer) rfl rfl rfl (by decide +kernel) ⟨Nat.le_of_ble_eq_true rfl, Nat.le_of_ble_eq_true rfl⟩) (by obtain ⟨fs, h9⟩ := ha _ hI; exact pX_V hK hKX (hZ.narrow (fun q h9 => Or.inl (hA1 q h9))) (h1 _ hI) h9 rfl) rfl rfl hl.1 rfl (lv_room (Nat.le_of_ble_eq_true rfl)) dL_setAnswer_7 ⟨Nat.le_of_ble_eq_true rfl, Nat.le_of_ble_eq_true rfl⟩) (fun q h9 => Or.inl (hA1 q h9)) hS hown [] ⟨0, 12, 15, 13⟩ [⟨0, 12, 19, 15⟩] htb (fun z hz => nomatch hz) rfl (by decide) (hts _ cl_L_13) (hKX.word xc_IO) (fun q H locs k1 k2 hp1 hS => ?_)
  refine lv_astore (lv' := [(5, .ref q), (0, .ref a), (1, .int x1), (2, .int x2), (3, .int x3), (4, .ref o)]) hx hb dL_setAnswer_15 hl (by decide) rfl (fun ls hl => ?_)
  refine iv_iconst hx hb dL_setAnswer_17 ?_
  obtain ⟨v0, hO⟩ := hO.kept (k2 o hO.lt (fun h9 => hoA (hA1 o h9)))
  exact W.iret hx hb hrt (fun t ht hW => ⟨rfl, by rw [ht]; exact hPo _ _ hI k1 k2 hp1, ⟨v0, by rw [ht]; exact hO, fun h9 => by exfalso; omega⟩, hS.F ht⟩) hS.2.2 dL_setAnswer_18 hlocks
set_option maxHeartbeats 4000000 in
set_option maxRecDepth 100000 in
theorem w_setAnswer_x2 (l : Launch) (E : Env3) (a o : Nat) (x1 x2 x3 : Int32) (A1 : Nat → Prop) (Pin1 Po1 : Heap → Prop) (A : Nat → Prop) (Pin Po : Heap → Prop) (ha : ∀ H, Pin H → ∃ fs, va_at E.1 vwCl (a, .inr (5, fs)) H) (hoA : ¬ A o) (hA1 : ∀ q, A1 q → A q) (h1 : ∀ H, Pin H → Pin1 H) (hPo : ∀ H H1 : Heap, Pin H → H.size ≤ H1.size → (∀ q : Nat, q < H.size → ¬ A1 q → H1[q]? = H[q]?) → Po1 H1 → Po H1) (hM : vx_Met l yX5_setAnswer (Cond.code yX5_setAnswer cX5_setAnswer 4 (some .int) :: ALL) ({ frames := 7, cells := 1, slots := 6, locals := 173 }) (pX [.ref a, .int x1, .int x2, .int x3] E A1 Pin1) qF (xT xIA A1 Po1) 1 6 A1) : Met l yL_setAnswer (Cond.codeWith yL_setAnswer cL_setAnswer 6 (some .int) [(0, 12, 15, 13), (0, 12, 19, 15)] :: ALL) ({ frames := 10, cells := 1, slots := 6, locals := 300 }) (pX [.ref a, .int x1, .int x2, .int x3, .ref o] E (fun q => A q ∨ q = o) (fun H => Pin H ∧ outA E o H)) (qO E A o 2 0 Po) 1 6 (fun q => A q ∨ q = o) := by
  refine mk_w (by decide) rfl (Nat.le_of_ble_eq_true rfl) ?_
  intro p e s m args below meth c hx hb hrt hml hts hown hlocks htb hK hKX hZ hI ls hl
  have hown : s.vm.findClass RL = some m.cls := hown
  have hl : lv_has ls 6 [(0, .ref a), (1, .int x1), (2, .int x2), (3, .int x3), (4, .ref o)] := hl
  obtain ⟨hI, hO⟩ := hI
  have hS : va_S (fun q => A q ∨ q = o) s.heap s.heap [] := va_S.rf
  refine lv_aload hx hb dL_setAnswer_0 (lv_lk hl rfl) ?_
  refine iv_iconst hx hb dL_setAnswer_2 ?_
  refine lv_aload_n hx hb dL_setAnswer_3 rfl (lv_lk hl rfl) ?_
  refine lv_iload_n hx hb dL_setAnswer_4 rfl (lv_lk hl rfl) ?_
  refine lv_iload_n hx hb dL_setAnswer_5 rfl (lv_lk hl rfl) ?_
  refine lv_iload_n hx hb dL_setAnswer_6 rfl (lv_lk hl rfl) ?_
  refine x_callC (own := RL) (name := xIA) (vx_runV ⟨hx, hb, hml, hown, hts⟩ hM (cwV 3 hts (gi_V ml_L_21 im_X5_setAnswer sl_X5_setAnswer it_X5 cd_X5_setAnswer) rfl rfl rfl (by decide +kernel) ⟨Nat.le_of_ble_eq_true rfl, Nat.le_of_ble_eq_true rfl⟩) (by obtain ⟨fs, h9⟩ := ha _ hI; exact pX_V hK hKX (hZ.narrow (fun q h9 => Or.inl (hA1 q h9))) (h1 _ hI) h9 rfl) rfl rfl hl.1 rfl (lv_room (Nat.le_of_ble_eq_true rfl)) dL_setAnswer_7 ⟨Nat.le_of_ble_eq_true rfl, Nat.le_of_ble_eq_true rfl⟩) (fun q h9 => Or.inl (hA1 q h9)) hS hown [⟨0, 12, 15, 13⟩] ⟨0, 12, 19, 15⟩ [] htb (fun z hz => by cases List.mem_singleton.mp hz; exact Or.inr ⟨by decide, xIO, hts _ cl_L_13, hKX.2.2 (xIA, xIO) (List.mem_of_getElem? (i := 0) rfl)⟩) rfl (by decide) (hts _ cl_L_15) (hKX.word xc_IA) (fun q H locs k1 k2 hp1 hS => ?_)
  refine lv_astore (lv' := [(5, .ref q), (0, .ref a), (1, .int x1), (2, .int x2), (3, .int x3), (4, .ref o)]) hx hb dL_setAnswer_19 hl (by decide) rfl (fun ls hl => ?_)
  refine iv_iconst hx hb dL_setAnswer_21 ?_
  obtain ⟨v0, hO⟩ := hO.kept (k2 o hO.lt (fun h9 => hoA (hA1 o h9)))
  exact W.iret hx hb hrt (fun t ht hW => ⟨rfl, by rw [ht]; exact hPo _ _ hI k1 k2 hp1, ⟨v0, by rw [ht]; exact hO, fun h9 => by exfalso; omega⟩, hS.F ht⟩) hS.2.2 dL_setAnswer_22 hlocks
set_option maxHeartbeats 4000000 in
set_option maxRecDepth 100000 in
theorem w_setReference_ok (l : Launch) (E : Env3) (a o : Nat) (x1 x2 x3 : Int32) (v : Int) (A : Nat → Prop) (Pin Po : Heap → Prop) (ha : ∀ H, Pin H → ∃ fs, va_at E.1 vwCl (a, .inr (5, fs)) H) (hoA : ¬ A o) (hin : onA A Po) (hM : Met l yX5_setReference (Cond.code yX5_setReference cX5_setReference 4 (some .int) :: ALL) ({ frames := 7, cells := 0, slots := 0, locals := 173 }) (pP [.ref a, .int x1, .int x2, .int x3] E Pin) (qH (some (.int (I v))) A Po) 0 0 A) : Met l yL_setReference (Cond.codeWith yL_setReference cL_setReference 6 (some .int) [(0, 12, 15, 13), (0, 12, 19, 15)] :: ALL) ({ frames := 10, cells := 1, slots := 6, locals := 300 }) (pX [.ref a, .int x1, .int x2, .int x3, .ref o] E (fun q => A q ∨ q = o) (fun H => Pin H ∧ outA E o H)) (qO E A o 0 (I v).toInt64 Po) 1 6 (fun q => A q ∨ q = o) := by
  refine mk_w (by decide) rfl (Nat.le_of_ble_eq_true rfl) ?_
  intro p e s m args below meth c hx hb hrt hml hts hown hlocks htb hK hKX hZ hI ls hl
  have hown : s.vm.findClass RL = some m.cls := hown
  have hl : lv_has ls 6 [(0, .ref a), (1, .int x1), (2, .int x2), (3, .int x3), (4, .ref o)] := hl
  obtain ⟨hI, hO⟩ := hI
  have hS : va_S (fun q => A q ∨ q = o) s.heap s.heap [] := va_S.rf
  refine lv_aload hx hb dL_setReference_0 (lv_lk hl rfl) ?_
  refine iv_iconst hx hb dL_setReference_2 ?_
  refine lv_aload_n hx hb dL_setReference_3 rfl (lv_lk hl rfl) ?_
  refine lv_iload_n hx hb dL_setReference_4 rfl (lv_lk hl rfl) ?_
  refine lv_iload_n hx hb dL_setReference_5 rfl (lv_lk hl rfl) ?_
  refine lv_iload_n hx hb dL_setReference_6 rfl (lv_lk hl rfl) ?_
  refine call_P (va_runV ⟨hx, hb, hml, hown, hts⟩ hM (cwV 3 hts (gi_V ml_L_24 im_X5_setReference sl_X5_setReference it_X5 cd_X5_setReference) rfl rfl rfl (by decide +kernel) ⟨Nat.le_of_ble_eq_true rfl, Nat.le_of_ble_eq_true rfl⟩) (pP_V hK hI (ha _ hI) rfl) rfl rfl hl.1 rfl (lv_room (Nat.le_of_ble_eq_true rfl)) dL_setReference_7 ⟨Nat.le_of_ble_eq_true rfl, Nat.le_of_ble_eq_true rfl⟩) (fun q h9 => Or.inl h9) hS rfl (fun H locs k1 k2 hPo hS => ?_)
  obtain ⟨v0, hO⟩ := hO.kept (k2 o hO.lt hoA)
  refine lv_i2l hx hb dL_setReference_10 rfl ?_
  refine x_last hx hb hK hO (Or.inr rfl) hS dL_setReference_11 (fun H1 locs hO1 z1 oq hS => ?_)
  refine lv_goto (tgt := 23) hx hb dL_setReference_12 (by decide) ?_
  refine iv_iconst hx hb dL_setReference_23 ?_
  refine W.widen (k := 1) (n := 6) (Nat.le_of_ble_eq_true rfl) (Nat.le_of_ble_eq_true rfl) ?_
  exact W.iret hx hb hrt (fun t ht hW => ⟨rfl, by rw [ht]; exact hin _ _ hPo (by omega) (fun q _ hq => oq q (fun e9 => hoA (e9 ▸ hq))), ⟨_, by rw [ht]; exact hO1, fun _ => rfl⟩, hS.F ht⟩) hS.2.2 dL_setReference_24 hlocks
set_option maxHeartbeats 4000000 in
set_option maxRecDepth 100000 in
theorem w_setReference_x1 (l : Launch) (E : Env3) (a o : Nat) (x1 x2 x3 : Int32) (A1 : Nat → Prop) (Pin1 Po1 : Heap → Prop) (A : Nat → Prop) (Pin Po : Heap → Prop) (ha : ∀ H, Pin H → ∃ fs, va_at E.1 vwCl (a, .inr (5, fs)) H) (hoA : ¬ A o) (hA1 : ∀ q, A1 q → A q) (h1 : ∀ H, Pin H → Pin1 H) (hPo : ∀ H H1 : Heap, Pin H → H.size ≤ H1.size → (∀ q : Nat, q < H.size → ¬ A1 q → H1[q]? = H[q]?) → Po1 H1 → Po H1) (hM : vx_Met l yX5_setReference (Cond.code yX5_setReference cX5_setReference 4 (some .int) :: ALL) ({ frames := 7, cells := 1, slots := 6, locals := 173 }) (pX [.ref a, .int x1, .int x2, .int x3] E A1 Pin1) qF (xT xIO A1 Po1) 1 6 A1) : Met l yL_setReference (Cond.codeWith yL_setReference cL_setReference 6 (some .int) [(0, 12, 15, 13), (0, 12, 19, 15)] :: ALL) ({ frames := 10, cells := 1, slots := 6, locals := 300 }) (pX [.ref a, .int x1, .int x2, .int x3, .ref o] E (fun q => A q ∨ q = o) (fun H => Pin H ∧ outA E o H)) (qO E A o 1 0 Po) 1 6 (fun q => A q ∨ q = o) := by
  refine mk_w (by decide) rfl (Nat.le_of_ble_eq_true rfl) ?_
  intro p e s m args below meth c hx hb hrt hml hts hown hlocks htb hK hKX hZ hI ls hl
  have hown : s.vm.findClass RL = some m.cls := hown
  have hl : lv_has ls 6 [(0, .ref a), (1, .int x1), (2, .int x2), (3, .int x3), (4, .ref o)] := hl
  obtain ⟨hI, hO⟩ := hI
  have hS : va_S (fun q => A q ∨ q = o) s.heap s.heap [] := va_S.rf
  refine lv_aload hx hb dL_setReference_0 (lv_lk hl rfl) ?_
  refine iv_iconst hx hb dL_setReference_2 ?_
  refine lv_aload_n hx hb dL_setReference_3 rfl (lv_lk hl rfl) ?_
  refine lv_iload_n hx hb dL_setReference_4 rfl (lv_lk hl rfl) ?_
  refine lv_iload_n hx hb dL_setReference_5 rfl (lv_lk hl rfl) ?_
  refine lv_iload_n hx hb dL_setReference_6 rfl (lv_lk hl rfl) ?_
  refine x_callC (own := RL) (name := xIO) (vx_runV ⟨hx, hb, hml, hown, hts⟩ hM (cwV 3 hts (gi_V ml_L_24 im_X5_setReference sl_X5_setReference it_X5 cd_X5_setReference) rfl rfl rfl (by decide +kernel) ⟨Nat.le_of_ble_eq_true rfl, Nat.le_of_ble_eq_true rfl⟩) (by obtain ⟨fs, h9⟩ := ha _ hI; exact pX_V hK hKX (hZ.narrow (fun q h9 => Or.inl (hA1 q h9))) (h1 _ hI) h9 rfl) rfl rfl hl.1 rfl (lv_room (Nat.le_of_ble_eq_true rfl)) dL_setReference_7 ⟨Nat.le_of_ble_eq_true rfl, Nat.le_of_ble_eq_true rfl⟩) (fun q h9 => Or.inl (hA1 q h9)) hS hown [] ⟨0, 12, 15, 13⟩ [⟨0, 12, 19, 15⟩] htb (fun z hz => nomatch hz) rfl (by decide) (hts _ cl_L_13) (hKX.word xc_IO) (fun q H locs k1 k2 hp1 hS => ?_)
  refine lv_astore (lv' := [(5, .ref q), (0, .ref a), (1, .int x1), (2, .int x2), (3, .int x3), (4, .ref o)]) hx hb dL_setReference_15 hl (by decide) rfl (fun ls hl => ?_)
  refine iv_iconst hx hb dL_setReference_17 ?_
  obtain ⟨v0, hO⟩ := hO.kept (k2 o hO.lt (fun h9 => hoA (hA1 o h9)))
  exact W.iret hx hb hrt (fun t ht hW => ⟨rfl, by rw [ht]; exact hPo _ _ hI k1 k2 hp1, ⟨v0, by rw [ht]; exact hO, fun h9 => by exfalso; omega⟩, hS.F ht⟩) hS.2.2 dL_setReference_18 hlocks
set_option maxHeartbeats 4000000 in
set_option maxRecDepth 100000 in
theorem w_setReference_x2 (l : Launch) (E : Env3) (a o : Nat) (x1 x2 x3 : Int32) (A1 : Nat → Prop) (Pin1 Po1 : Heap → Prop) (A : Nat → Prop) (Pin Po : Heap → Prop) (ha : ∀ H, Pin H → ∃ fs, va_at E.1 vwCl (a, .inr (5, fs)) H) (hoA : ¬ A o) (hA1 : ∀ q, A1 q → A q) (h1 : ∀ H, Pin H → Pin1 H) (hPo : ∀ H H1 : Heap, Pin H → H.size ≤ H1.size → (∀ q : Nat, q < H.size → ¬ A1 q → H1[q]? = H[q]?) → Po1 H1 → Po H1) (hM : vx_Met l yX5_setReference (Cond.code yX5_setReference cX5_setReference 4 (some .int) :: ALL) ({ frames := 7, cells := 1, slots := 6, locals := 173 }) (pX [.ref a, .int x1, .int x2, .int x3] E A1 Pin1) qF (xT xIA A1 Po1) 1 6 A1) : Met l yL_setReference (Cond.codeWith yL_setReference cL_setReference 6 (some .int) [(0, 12, 15, 13), (0, 12, 19, 15)] :: ALL) ({ frames := 10, cells := 1, slots := 6, locals := 300 }) (pX [.ref a, .int x1, .int x2, .int x3, .ref o] E (fun q => A q ∨ q = o) (fun H => Pin H ∧ outA E o H)) (qO E A o 2 0 Po) 1 6 (fun q => A q ∨ q = o) := by
  refine mk_w (by decide) rfl (Nat.le_of_ble_eq_true rfl) ?_
  intro p e s m args below meth c hx hb hrt hml hts hown hlocks htb hK hKX hZ hI ls hl
  have hown : s.vm.findClass RL = some m.cls := hown
  have hl : lv_has ls 6 [(0, .ref a), (1, .int x1), (2, .int x2), (3, .int x3), (4, .ref o)] := hl
  obtain ⟨hI, hO⟩ := hI
  have hS : va_S (fun q => A q ∨ q = o) s.heap s.heap [] := va_S.rf
  refine lv_aload hx hb dL_setReference_0 (lv_lk hl rfl) ?_
  refine iv_iconst hx hb dL_setReference_2 ?_
  refine lv_aload_n hx hb dL_setReference_3 rfl (lv_lk hl rfl) ?_
  refine lv_iload_n hx hb dL_setReference_4 rfl (lv_lk hl rfl) ?_
  refine lv_iload_n hx hb dL_setReference_5 rfl (lv_lk hl rfl) ?_
  refine lv_iload_n hx hb dL_setReference_6 rfl (lv_lk hl rfl) ?_
  refine x_callC (own := RL) (name := xIA) (vx_runV ⟨hx, hb, hml, hown, hts⟩ hM (cwV 3 hts (gi_V ml_L_24 im_X5_setReference sl_X5_setReference it_X5 cd_X5_setReference) rfl rfl rfl (by decide +kernel) ⟨Nat.le_of_ble_eq_true rfl, Nat.le_of_ble_eq_true rfl⟩) (by obtain ⟨fs, h9⟩ := ha _ hI; exact pX_V hK hKX (hZ.narrow (fun q h9 => Or.inl (hA1 q h9))) (h1 _ hI) h9 rfl) rfl rfl hl.1 rfl (lv_room (Nat.le_of_ble_eq_true rfl)) dL_setReference_7 ⟨Nat.le_of_ble_eq_true rfl, Nat.le_of_ble_eq_true rfl⟩) (fun q h9 => Or.inl (hA1 q h9)) hS hown [⟨0, 12, 15, 13⟩] ⟨0, 12, 19, 15⟩ [] htb (fun z hz => by cases List.mem_singleton.mp hz; exact Or.inr ⟨by decide, xIO, hts _ cl_L_13, hKX.2.2 (xIA, xIO) (List.mem_of_getElem? (i := 0) rfl)⟩) rfl (by decide) (hts _ cl_L_15) (hKX.word xc_IA) (fun q H locs k1 k2 hp1 hS => ?_)
  refine lv_astore (lv' := [(5, .ref q), (0, .ref a), (1, .int x1), (2, .int x2), (3, .int x3), (4, .ref o)]) hx hb dL_setReference_19 hl (by decide) rfl (fun ls hl => ?_)
  refine iv_iconst hx hb dL_setReference_21 ?_
  obtain ⟨v0, hO⟩ := hO.kept (k2 o hO.lt (fun h9 => hoA (hA1 o h9)))
  exact W.iret hx hb hrt (fun t ht hW => ⟨rfl, by rw [ht]; exact hPo _ _ hI k1 k2 hp1, ⟨v0, by rw [ht]; exact hO, fun h9 => by exfalso; omega⟩, hS.F ht⟩) hS.2.2 dL_setReference_22 hlocks
set_option maxHeartbeats 4000000 in
set_option maxRecDepth 100000 in
theorem w_takeAway_ok (l : Launch) (E : Env3) (a o : Nat) (x1 : Int32) (v : Int) (A : Nat → Prop) (Pin Po : Heap → Prop) (ha : ∀ H, Pin H → ∃ fs, va_at E.1 vwCl (a, .inr (5, fs)) H) (hoA : ¬ A o) (hin : onA A Po) (hM : Met l yX5_takeAway (Cond.code yX5_takeAway cX5_takeAway 2 (some .int) :: ALL) ({ frames := 7, cells := 0, slots := 0, locals := 173 }) (pP [.ref a, .int x1] E Pin) (qH (some (.int (I v))) A Po) 0 0 A) : Met l yL_takeAway (Cond.codeWith yL_takeAway cL_takeAway 4 (some .int) [(0, 9, 12, 13), (0, 9, 15, 31)] :: ALL) ({ frames := 10, cells := 1, slots := 6, locals := 300 }) (pX [.ref a, .int x1, .ref o] E (fun q => A q ∨ q = o) (fun H => Pin H ∧ outA E o H)) (qO E A o 0 (I v).toInt64 Po) 1 6 (fun q => A q ∨ q = o) := by
  refine mk_w (by decide) rfl (Nat.le_of_ble_eq_true rfl) ?_
  intro p e s m args below meth c hx hb hrt hml hts hown hlocks htb hK hKX hZ hI ls hl
  have hown : s.vm.findClass RL = some m.cls := hown
  have hl : lv_has ls 4 [(0, .ref a), (1, .int x1), (2, .ref o)] := hl
  obtain ⟨hI, hO⟩ := hI
  have hS : va_S (fun q => A q ∨ q = o) s.heap s.heap [] := va_S.rf
  refine lv_aload_n hx hb dL_takeAway_0 rfl (lv_lk hl rfl) ?_
  refine iv_iconst hx hb dL_takeAway_1 ?_
  refine lv_aload_n hx hb dL_takeAway_2 rfl (lv_lk hl rfl) ?_
  refine lv_iload_n hx hb dL_takeAway_3 rfl (lv_lk hl rfl) ?_
  refine call_P (va_runV ⟨hx, hb, hml, hown, hts⟩ hM (cwV 1 hts (gi_V ml_L_27 im_X5_takeAway sl_X5_takeAway it_X5 cd_X5_takeAway) rfl rfl rfl (by decide +kernel) ⟨Nat.le_of_ble_eq_true rfl, Nat.le_of_ble_eq_true rfl⟩) (pP_V hK hI (ha _ hI) rfl) rfl rfl hl.1 rfl (lv_room (Nat.le_of_ble_eq_true rfl)) dL_takeAway_4 ⟨Nat.le_of_ble_eq_true rfl, Nat.le_of_ble_eq_true rfl⟩) (fun q h9 => Or.inl h9) hS rfl (fun H locs k1 k2 hPo hS => ?_)
  obtain ⟨v0, hO⟩ := hO.kept (k2 o hO.lt hoA)
  refine lv_i2l hx hb dL_takeAway_7 rfl ?_
  refine x_last hx hb hK hO (Or.inr rfl) hS dL_takeAway_8 (fun H1 locs hO1 z1 oq hS => ?_)
  refine lv_goto (tgt := 18) hx hb dL_takeAway_9 (by decide) ?_
  refine iv_iconst hx hb dL_takeAway_18 ?_
  refine W.widen (k := 1) (n := 6) (Nat.le_of_ble_eq_true rfl) (Nat.le_of_ble_eq_true rfl) ?_
  exact W.iret hx hb hrt (fun t ht hW => ⟨rfl, by rw [ht]; exact hin _ _ hPo (by omega) (fun q _ hq => oq q (fun e9 => hoA (e9 ▸ hq))), ⟨_, by rw [ht]; exact hO1, fun _ => rfl⟩, hS.F ht⟩) hS.2.2 dL_takeAway_19 hlocks
set_option maxHeartbeats 4000000 in
set_option maxRecDepth 100000 in
theorem w_takeAway_x1 (l : Launch) (E : Env3) (a o : Nat) (x1 : Int32) (A1 : Nat → Prop) (Pin1 Po1 : Heap → Prop) (A : Nat → Prop) (Pin Po : Heap → Prop) (ha : ∀ H, Pin H → ∃ fs, va_at E.1 vwCl (a, .inr (5, fs)) H) (hoA : ¬ A o) (hA1 : ∀ q, A1 q → A q) (h1 : ∀ H, Pin H → Pin1 H) (hPo : ∀ H H1 : Heap, Pin H → H.size ≤ H1.size → (∀ q : Nat, q < H.size → ¬ A1 q → H1[q]? = H[q]?) → Po1 H1 → Po H1) (hM : vx_Met l yX5_takeAway (Cond.code yX5_takeAway cX5_takeAway 2 (some .int) :: ALL) ({ frames := 7, cells := 1, slots := 6, locals := 173 }) (pX [.ref a, .int x1] E A1 Pin1) qF (xT xIO A1 Po1) 1 6 A1) : Met l yL_takeAway (Cond.codeWith yL_takeAway cL_takeAway 4 (some .int) [(0, 9, 12, 13), (0, 9, 15, 31)] :: ALL) ({ frames := 10, cells := 1, slots := 6, locals := 300 }) (pX [.ref a, .int x1, .ref o] E (fun q => A q ∨ q = o) (fun H => Pin H ∧ outA E o H)) (qO E A o 1 0 Po) 1 6 (fun q => A q ∨ q = o) := by
  refine mk_w (by decide) rfl (Nat.le_of_ble_eq_true rfl) ?_
  intro p e s m args below meth c hx hb hrt hml hts hown hlocks htb hK hKX hZ hI ls hl
  have hown : s.vm.findClass RL = some m.cls := hown
  have hl : lv_has ls 4 [(0, .ref a), (1, .int x1), (2, .ref o)] := hl
  obtain ⟨hI, hO⟩ := hI
  have hS : va_S (fun q => A q ∨ q = o) s.heap s.heap [] := va_S.rf
  refine lv_aload_n hx hb dL_takeAway_0 rfl (lv_lk hl rfl) ?_
  refine iv_iconst hx hb dL_takeAway_1 ?_
  refine lv_aload_n hx hb dL_takeAway_2 rfl (lv_lk hl rfl) ?_
  refine lv_iload_n hx hb dL_takeAway_3 rfl (lv_lk hl rfl) ?_
  refine x_callC (own := RL) (name := xIO) (vx_runV ⟨hx, hb, hml, hown, hts⟩ hM (cwV 1 hts (gi_V ml_L_27 im_X5_takeAway sl_X5_takeAway it_X5 cd_X5_takeAway) rfl rfl rfl (by decide +kernel) ⟨Nat.le_of_ble_eq_true rfl, Nat.le_of_ble_eq_true rfl⟩) (by obtain ⟨fs, h9⟩ := ha _ hI; exact pX_V hK hKX (hZ.narrow (fun q h9 => Or.inl (hA1 q h9))) (h1 _ hI) h9 rfl) rfl rfl hl.1 rfl (lv_room (Nat.le_of_ble_eq_true rfl)) dL_takeAway_4 ⟨Nat.le_of_ble_eq_true rfl, Nat.le_of_ble_eq_true rfl⟩) (fun q h9 => Or.inl (hA1 q h9)) hS hown [] ⟨0, 9, 12, 13⟩ [⟨0, 9, 15, 31⟩] htb (fun z hz => nomatch hz) rfl (by decide) (hts _ cl_L_13) (hKX.word xc_IO) (fun q H locs k1 k2 hp1 hS => ?_)
  refine lv_astore_n (lv' := [(3, .ref q), (0, .ref a), (1, .int x1), (2, .ref o)]) hx hb dL_takeAway_12 rfl hl (by decide) rfl (fun ls hl => ?_)
  refine iv_iconst hx hb dL_takeAway_13 ?_
  obtain ⟨v0, hO⟩ := hO.kept (k2 o hO.lt (fun h9 => hoA (hA1 o h9)))
  exact W.iret hx hb hrt (fun t ht hW => ⟨rfl, by rw [ht]; exact hPo _ _ hI k1 k2 hp1, ⟨v0, by rw [ht]; exact hO, fun h9 => by exfalso; omega⟩, hS.F ht⟩) hS.2.2 dL_takeAway_14 hlocks
set_option maxHeartbeats 4000000 in
set_option maxRecDepth 100000 in
theorem w_takeAway_x2 (l : Launch) (E : Env3) (a o : Nat) (x1 : Int32) (A1 : Nat → Prop) (Pin1 Po1 : Heap → Prop) (A : Nat → Prop) (Pin Po : Heap → Prop) (ha : ∀ H, Pin H → ∃ fs, va_at E.1 vwCl (a, .inr (5, fs)) H) (hoA : ¬ A o) (hA1 : ∀ q, A1 q → A q) (h1 : ∀ H, Pin H → Pin1 H) (hPo : ∀ H H1 : Heap, Pin H → H.size ≤ H1.size → (∀ q : Nat, q < H.size → ¬ A1 q → H1[q]? = H[q]?) → Po1 H1 → Po H1) (hM : vx_Met l yX5_takeAway (Cond.code yX5_takeAway cX5_takeAway 2 (some .int) :: ALL) ({ frames := 7, cells := 1, slots := 6, locals := 173 }) (pX [.ref a, .int x1] E A1 Pin1) qF (xT xIS A1 Po1) 1 6 A1) : Met l yL_takeAway (Cond.codeWith yL_takeAway cL_takeAway 4 (some .int) [(0, 9, 12, 13), (0, 9, 15, 31)] :: ALL) ({ frames := 10, cells := 1, slots := 6, locals := 300 }) (pX [.ref a, .int x1, .ref o] E (fun q => A q ∨ q = o) (fun H => Pin H ∧ outA E o H)) (qO E A o 2 0 Po) 1 6 (fun q => A q ∨ q = o) := by
  refine mk_w (by decide) rfl (Nat.le_of_ble_eq_true rfl) ?_
  intro p e s m args below meth c hx hb hrt hml hts hown hlocks htb hK hKX hZ hI ls hl
  have hown : s.vm.findClass RL = some m.cls := hown
  have hl : lv_has ls 4 [(0, .ref a), (1, .int x1), (2, .ref o)] := hl
  obtain ⟨hI, hO⟩ := hI
  have hS : va_S (fun q => A q ∨ q = o) s.heap s.heap [] := va_S.rf
  refine lv_aload_n hx hb dL_takeAway_0 rfl (lv_lk hl rfl) ?_
  refine iv_iconst hx hb dL_takeAway_1 ?_
  refine lv_aload_n hx hb dL_takeAway_2 rfl (lv_lk hl rfl) ?_
  refine lv_iload_n hx hb dL_takeAway_3 rfl (lv_lk hl rfl) ?_
  refine x_callC (own := RL) (name := xIS) (vx_runV ⟨hx, hb, hml, hown, hts⟩ hM (cwV 1 hts (gi_V ml_L_27 im_X5_takeAway sl_X5_takeAway it_X5 cd_X5_takeAway) rfl rfl rfl (by decide +kernel) ⟨Nat.le_of_ble_eq_true rfl, Nat.le_of_ble_eq_true rfl⟩) (by obtain ⟨fs, h9⟩ := ha _ hI; exact pX_V hK hKX (hZ.narrow (fun q h9 => Or.inl (hA1 q h9))) (h1 _ hI) h9 rfl) rfl rfl hl.1 rfl (lv_room (Nat.le_of_ble_eq_true rfl)) dL_takeAway_4 ⟨Nat.le_of_ble_eq_true rfl, Nat.le_of_ble_eq_true rfl⟩) (fun q h9 => Or.inl (hA1 q h9)) hS hown [⟨0, 9, 12, 13⟩] ⟨0, 9, 15, 31⟩ [] htb (fun z hz => by cases List.mem_singleton.mp hz; exact Or.inr ⟨by decide, xIO, hts _ cl_L_13, hKX.2.2 (xIS, xIO) (List.mem_of_getElem? (i := 1) rfl)⟩) rfl (by decide) (hts _ cl_L_31) (hKX.word xc_IS) (fun q H locs k1 k2 hp1 hS => ?_)
  refine lv_astore_n (lv' := [(3, .ref q), (0, .ref a), (1, .int x1), (2, .ref o)]) hx hb dL_takeAway_15 rfl hl (by decide) rfl (fun ls hl => ?_)
  refine iv_iconst hx hb dL_takeAway_16 ?_
  obtain ⟨v0, hO⟩ := hO.kept (k2 o hO.lt (fun h9 => hoA (hA1 o h9)))
  exact W.iret hx hb hrt (fun t ht hW => ⟨rfl, by rw [ht]; exact hPo _ _ hI k1 k2 hp1, ⟨v0, by rw [ht]; exact hO, fun h9 => by exfalso; omega⟩, hS.F ht⟩) hS.2.2 dL_takeAway_17 hlocks
set_option maxHeartbeats 4000000 in
set_option maxRecDepth 100000 in
theorem w_solve_ok (l : Launch) (E : Env3) (a o : Nat) (x1 : Int32) (v : Int) (A : Nat → Prop) (Pin Po : Heap → Prop) (ha : ∀ H, Pin H → ∃ fs, va_at E.1 vwCl (a, .inr (5, fs)) H) (hoA : ¬ A o) (hin : onA A Po) (hM : Met l yX5_solve (Cond.code yX5_solve cX5_solve 2 (some .int) :: ALL) ({ frames := 7, cells := 0, slots := 0, locals := 148 }) (pP [.ref a, .int x1] E Pin) (qH (some (.int (I v))) A Po) 0 0 A) : Met l yL_solve (Cond.codeWith yL_solve cL_solve 4 (some .int) [(0, 9, 12, 13)] :: ALL) ({ frames := 10, cells := 1, slots := 6, locals := 300 }) (pX [.ref a, .int x1, .ref o] E (fun q => A q ∨ q = o) (fun H => Pin H ∧ outA E o H)) (qO E A o 0 (I v).toInt64 Po) 1 6 (fun q => A q ∨ q = o) := by
  refine mk_w (by decide) rfl (Nat.le_of_ble_eq_true rfl) ?_
  intro p e s m args below meth c hx hb hrt hml hts hown hlocks htb hK hKX hZ hI ls hl
  have hown : s.vm.findClass RL = some m.cls := hown
  have hl : lv_has ls 4 [(0, .ref a), (1, .int x1), (2, .ref o)] := hl
  obtain ⟨hI, hO⟩ := hI
  have hS : va_S (fun q => A q ∨ q = o) s.heap s.heap [] := va_S.rf
  refine lv_aload_n hx hb dL_solve_0 rfl (lv_lk hl rfl) ?_
  refine iv_iconst hx hb dL_solve_1 ?_
  refine lv_aload_n hx hb dL_solve_2 rfl (lv_lk hl rfl) ?_
  refine lv_iload_n hx hb dL_solve_3 rfl (lv_lk hl rfl) ?_
  refine call_P (va_runV ⟨hx, hb, hml, hown, hts⟩ hM (cwV 1 hts (gi_V ml_L_33 im_X5_solve sl_X5_solve it_X5 cd_X5_solve) rfl rfl rfl (by decide +kernel) ⟨Nat.le_of_ble_eq_true rfl, Nat.le_of_ble_eq_true rfl⟩) (pP_V hK hI (ha _ hI) rfl) rfl rfl hl.1 rfl (lv_room (Nat.le_of_ble_eq_true rfl)) dL_solve_4 ⟨Nat.le_of_ble_eq_true rfl, Nat.le_of_ble_eq_true rfl⟩) (fun q h9 => Or.inl h9) hS rfl (fun H locs k1 k2 hPo hS => ?_)
  obtain ⟨v0, hO⟩ := hO.kept (k2 o hO.lt hoA)
  refine lv_i2l hx hb dL_solve_7 rfl ?_
  refine x_last hx hb hK hO (Or.inr rfl) hS dL_solve_8 (fun H1 locs hO1 z1 oq hS => ?_)
  refine lv_goto (tgt := 15) hx hb dL_solve_9 (by decide) ?_
  refine iv_iconst hx hb dL_solve_15 ?_
  refine W.widen (k := 1) (n := 6) (Nat.le_of_ble_eq_true rfl) (Nat.le_of_ble_eq_true rfl) ?_
  exact W.iret hx hb hrt (fun t ht hW => ⟨rfl, by rw [ht]; exact hin _ _ hPo (by omega) (fun q _ hq => oq q (fun e9 => hoA (e9 ▸ hq))), ⟨_, by rw [ht]; exact hO1, fun _ => rfl⟩, hS.F ht⟩) hS.2.2 dL_solve_16 hlocks
set_option maxHeartbeats 4000000 in
set_option maxRecDepth 100000 in
theorem w_solve_x1 (l : Launch) (E : Env3) (a o : Nat) (x1 : Int32) (A1 : Nat → Prop) (Pin1 Po1 : Heap → Prop) (A : Nat → Prop) (Pin Po : Heap → Prop) (ha : ∀ H, Pin H → ∃ fs, va_at E.1 vwCl (a, .inr (5, fs)) H) (hoA : ¬ A o) (hA1 : ∀ q, A1 q → A q) (h1 : ∀ H, Pin H → Pin1 H) (hPo : ∀ H H1 : Heap, Pin H → H.size ≤ H1.size → (∀ q : Nat, q < H.size → ¬ A1 q → H1[q]? = H[q]?) → Po1 H1 → Po H1) (hM : vx_Met l yX5_solve (Cond.code yX5_solve cX5_solve 2 (some .int) :: ALL) ({ frames := 7, cells := 1, slots := 6, locals := 148 }) (pX [.ref a, .int x1] E A1 Pin1) qF (xT xIO A1 Po1) 1 6 A1) : Met l yL_solve (Cond.codeWith yL_solve cL_solve 4 (some .int) [(0, 9, 12, 13)] :: ALL) ({ frames := 10, cells := 1, slots := 6, locals := 300 }) (pX [.ref a, .int x1, .ref o] E (fun q => A q ∨ q = o) (fun H => Pin H ∧ outA E o H)) (qO E A o 1 0 Po) 1 6 (fun q => A q ∨ q = o) := by
  refine mk_w (by decide) rfl (Nat.le_of_ble_eq_true rfl) ?_
  intro p e s m args below meth c hx hb hrt hml hts hown hlocks htb hK hKX hZ hI ls hl
  have hown : s.vm.findClass RL = some m.cls := hown
  have hl : lv_has ls 4 [(0, .ref a), (1, .int x1), (2, .ref o)] := hl
  obtain ⟨hI, hO⟩ := hI
  have hS : va_S (fun q => A q ∨ q = o) s.heap s.heap [] := va_S.rf
  refine lv_aload_n hx hb dL_solve_0 rfl (lv_lk hl rfl) ?_
  refine iv_iconst hx hb dL_solve_1 ?_
  refine lv_aload_n hx hb dL_solve_2 rfl (lv_lk hl rfl) ?_
  refine lv_iload_n hx hb dL_solve_3 rfl (lv_lk hl rfl) ?_
  refine x_callC (own := RL) (name := xIO) (vx_runV ⟨hx, hb, hml, hown, hts⟩ hM (cwV 1 hts (gi_V ml_L_33 im_X5_solve sl_X5_solve it_X5 cd_X5_solve) rfl rfl rfl (by decide +kernel) ⟨Nat.le_of_ble_eq_true rfl, Nat.le_of_ble_eq_true rfl⟩) (by obtain ⟨fs, h9⟩ := ha _ hI; exact pX_V hK hKX (hZ.narrow (fun q h9 => Or.inl (hA1 q h9))) (h1 _ hI) h9 rfl) rfl rfl hl.1 rfl (lv_room (Nat.le_of_ble_eq_true rfl)) dL_solve_4 ⟨Nat.le_of_ble_eq_true rfl, Nat.le_of_ble_eq_true rfl⟩) (fun q h9 => Or.inl (hA1 q h9)) hS hown [] ⟨0, 9, 12, 13⟩ [] htb (fun z hz => nomatch hz) rfl (by decide) (hts _ cl_L_13) (hKX.word xc_IO) (fun q H locs k1 k2 hp1 hS => ?_)
  refine lv_astore_n (lv' := [(3, .ref q), (0, .ref a), (1, .int x1), (2, .ref o)]) hx hb dL_solve_12 rfl hl (by decide) rfl (fun ls hl => ?_)
  refine iv_iconst hx hb dL_solve_13 ?_
  obtain ⟨v0, hO⟩ := hO.kept (k2 o hO.lt (fun h9 => hoA (hA1 o h9)))
  exact W.iret hx hb hrt (fun t ht hW => ⟨rfl, by rw [ht]; exact hPo _ _ hI k1 k2 hp1, ⟨v0, by rw [ht]; exact hO, fun h9 => by exfalso; omega⟩, hS.F ht⟩) hS.2.2 dL_solve_14 hlocks
set_option maxHeartbeats 4000000 in
set_option maxRecDepth 100000 in
theorem w_forget_ok (l : Launch) (E : Env3) (a o : Nat) (x1 : Int32) (v : Int) (A : Nat → Prop) (Pin Po : Heap → Prop) (ha : ∀ H, Pin H → ∃ fs, va_at E.1 vwCl (a, .inr (5, fs)) H) (hoA : ¬ A o) (hin : onA A Po) (hM : Met l yX5_forget (Cond.code yX5_forget cX5_forget 3 (some .int) :: ALL) ({ frames := 7, cells := 0, slots := 0, locals := 148 }) (pP [.ref a, .int x1] E Pin) (qH (some (.int (I v))) A Po) 0 0 A) : Met l yL_forget (Cond.codeWith yL_forget cL_forget 4 (some .int) [(0, 9, 12, 13), (0, 9, 15, 31)] :: ALL) ({ frames := 10, cells := 1, slots := 6, locals := 300 }) (pX [.ref a, .int x1, .ref o] E (fun q => A q ∨ q = o) (fun H => Pin H ∧ outA E o H)) (qO E A o 0 (I v).toInt64 Po) 1 6 (fun q => A q ∨ q = o) := by
  refine mk_w (by decide) rfl (Nat.le_of_ble_eq_true rfl) ?_
  intro p e s m args below meth c hx hb hrt hml hts hown hlocks htb hK hKX hZ hI ls hl
  have hown : s.vm.findClass RL = some m.cls := hown
  have hl : lv_has ls 4 [(0, .ref a), (1, .int x1), (2, .ref o)] := hl
  obtain ⟨hI, hO⟩ := hI
  have hS : va_S (fun q => A q ∨ q = o) s.heap s.heap [] := va_S.rf
  refine lv_aload_n hx hb dL_forget_0 rfl (lv_lk hl rfl) ?_
  refine iv_iconst hx hb dL_forget_1 ?_
  refine lv_aload_n hx hb dL_forget_2 rfl (lv_lk hl rfl) ?_
  refine lv_iload_n hx hb dL_forget_3 rfl (lv_lk hl rfl) ?_
  refine call_P (va_runV ⟨hx, hb, hml, hown, hts⟩ hM (cwV 1 hts (gi_V ml_L_36 im_X5_forget sl_X5_forget it_X5 cd_X5_forget) rfl rfl rfl (by decide +kernel) ⟨Nat.le_of_ble_eq_true rfl, Nat.le_of_ble_eq_true rfl⟩) (pP_V hK hI (ha _ hI) rfl) rfl rfl hl.1 rfl (lv_room (Nat.le_of_ble_eq_true rfl)) dL_forget_4 ⟨Nat.le_of_ble_eq_true rfl, Nat.le_of_ble_eq_true rfl⟩) (fun q h9 => Or.inl h9) hS rfl (fun H locs k1 k2 hPo hS => ?_)
  obtain ⟨v0, hO⟩ := hO.kept (k2 o hO.lt hoA)
  refine lv_i2l hx hb dL_forget_7 rfl ?_
  refine x_last hx hb hK hO (Or.inr rfl) hS dL_forget_8 (fun H1 locs hO1 z1 oq hS => ?_)
  refine lv_goto (tgt := 18) hx hb dL_forget_9 (by decide) ?_
  refine iv_iconst hx hb dL_forget_18 ?_
  refine W.widen (k := 1) (n := 6) (Nat.le_of_ble_eq_true rfl) (Nat.le_of_ble_eq_true rfl) ?_
  exact W.iret hx hb hrt (fun t ht hW => ⟨rfl, by rw [ht]; exact hin _ _ hPo (by omega) (fun q _ hq => oq q (fun e9 => hoA (e9 ▸ hq))), ⟨_, by rw [ht]; exact hO1, fun _ => rfl⟩, hS.F ht⟩) hS.2.2 dL_forget_19 hlocks
set_option maxHeartbeats 4000000 in
set_option maxRecDepth 100000 in
theorem w_forget_x1 (l : Launch) (E : Env3) (a o : Nat) (x1 : Int32) (A1 : Nat → Prop) (Pin1 Po1 : Heap → Prop) (A : Nat → Prop) (Pin Po : Heap → Prop) (ha : ∀ H, Pin H → ∃ fs, va_at E.1 vwCl (a, .inr (5, fs)) H) (hoA : ¬ A o) (hA1 : ∀ q, A1 q → A q) (h1 : ∀ H, Pin H → Pin1 H) (hPo : ∀ H H1 : Heap, Pin H → H.size ≤ H1.size → (∀ q : Nat, q < H.size → ¬ A1 q → H1[q]? = H[q]?) → Po1 H1 → Po H1) (hM : vx_Met l yX5_forget (Cond.code yX5_forget cX5_forget 3 (some .int) :: ALL) ({ frames := 7, cells := 1, slots := 6, locals := 148 }) (pX [.ref a, .int x1] E A1 Pin1) qF (xT xIO A1 Po1) 1 6 A1) : Met l yL_forget (Cond.codeWith yL_forget cL_forget 4 (some .int) [(0, 9, 12, 13), (0, 9, 15, 31)] :: ALL) ({ frames := 10, cells := 1, slots := 6, locals := 300 }) (pX [.ref a, .int x1, .ref o] E (fun q => A q ∨ q = o) (fun H => Pin H ∧ outA E o H)) (qO E A o 1 0 Po) 1 6 (fun q => A q ∨ q = o) := by
  refine mk_w (by decide) rfl (Nat.le_of_ble_eq_true rfl) ?_
  intro p e s m args below meth c hx hb hrt hml hts hown hlocks htb hK hKX hZ hI ls hl
  have hown : s.vm.findClass RL = some m.cls := hown
  have hl : lv_has ls 4 [(0, .ref a), (1, .int x1), (2, .ref o)] := hl
  obtain ⟨hI, hO⟩ := hI
  have hS : va_S (fun q => A q ∨ q = o) s.heap s.heap [] := va_S.rf
  refine lv_aload_n hx hb dL_forget_0 rfl (lv_lk hl rfl) ?_
  refine iv_iconst hx hb dL_forget_1 ?_
  refine lv_aload_n hx hb dL_forget_2 rfl (lv_lk hl rfl) ?_
  refine lv_iload_n hx hb dL_forget_3 rfl (lv_lk hl rfl) ?_
  refine x_callC (own := RL) (name := xIO) (vx_runV ⟨hx, hb, hml, hown, hts⟩ hM (cwV 1 hts (gi_V ml_L_36 im_X5_forget sl_X5_forget it_X5 cd_X5_forget) rfl rfl rfl (by decide +kernel) ⟨Nat.le_of_ble_eq_true rfl, Nat.le_of_ble_eq_true rfl⟩) (by obtain ⟨fs, h9⟩ := ha _ hI; exact pX_V hK hKX (hZ.narrow (fun q h9 => Or.inl (hA1 q h9))) (h1 _ hI) h9 rfl) rfl rfl hl.1 rfl (lv_room (Nat.le_of_ble_eq_true rfl)) dL_forget_4 ⟨Nat.le_of_ble_eq_true rfl, Nat.le_of_ble_eq_true rfl⟩) (fun q h9 => Or.inl (hA1 q h9)) hS hown [] ⟨0, 9, 12, 13⟩ [⟨0, 9, 15, 31⟩] htb (fun z hz => nomatch hz) rfl (by decide) (hts _ cl_L_13) (hKX.word xc_IO) (fun q H locs k1 k2 hp1 hS => ?_)
  refine lv_astore_n (lv' := [(3, .ref q), (0, .ref a), (1, .int x1), (2, .ref o)]) hx hb dL_forget_12 rfl hl (by decide) rfl (fun ls hl => ?_)
  refine iv_iconst hx hb dL_forget_13 ?_
  obtain ⟨v0, hO⟩ := hO.kept (k2 o hO.lt (fun h9 => hoA (hA1 o h9)))
  exact W.iret hx hb hrt (fun t ht hW => ⟨rfl, by rw [ht]; exact hPo _ _ hI k1 k2 hp1, ⟨v0, by rw [ht]; exact hO, fun h9 => by exfalso; omega⟩, hS.F ht⟩) hS.2.2 dL_forget_14 hlocks
set_option maxHeartbeats 4000000 in
set_option maxRecDepth 100000 in
theorem w_forget_x2 (l : Launch) (E : Env3) (a o : Nat) (x1 : Int32) (A1 : Nat → Prop) (Pin1 Po1 : Heap → Prop) (A : Nat → Prop) (Pin Po : Heap → Prop) (ha : ∀ H, Pin H → ∃ fs, va_at E.1 vwCl (a, .inr (5, fs)) H) (hoA : ¬ A o) (hA1 : ∀ q, A1 q → A q) (h1 : ∀ H, Pin H → Pin1 H) (hPo : ∀ H H1 : Heap, Pin H → H.size ≤ H1.size → (∀ q : Nat, q < H.size → ¬ A1 q → H1[q]? = H[q]?) → Po1 H1 → Po H1) (hM : vx_Met l yX5_forget (Cond.code yX5_forget cX5_forget 3 (some .int) :: ALL) ({ frames := 7, cells := 1, slots := 6, locals := 148 }) (pX [.ref a, .int x1] E A1 Pin1) qF (xT xIS A1 Po1) 1 6 A1) : Met l yL_forget (Cond.codeWith yL_forget cL_forget 4 (some .int) [(0, 9, 12, 13), (0, 9, 15, 31)] :: ALL) ({ frames := 10, cells := 1, slots := 6, locals := 300 }) (pX [.ref a, .int x1, .ref o] E (fun q => A q ∨ q = o) (fun H => Pin H ∧ outA E o H)) (qO E A o 2 0 Po) 1 6 (fun q => A q ∨ q = o) := by
  refine mk_w (by decide) rfl (Nat.le_of_ble_eq_true rfl) ?_
  intro p e s m args below meth c hx hb hrt hml hts hown hlocks htb hK hKX hZ hI ls hl
  have hown : s.vm.findClass RL = some m.cls := hown
  have hl : lv_has ls 4 [(0, .ref a), (1, .int x1), (2, .ref o)] := hl
  obtain ⟨hI, hO⟩ := hI
  have hS : va_S (fun q => A q ∨ q = o) s.heap s.heap [] := va_S.rf
  refine lv_aload_n hx hb dL_forget_0 rfl (lv_lk hl rfl) ?_
  refine iv_iconst hx hb dL_forget_1 ?_
  refine lv_aload_n hx hb dL_forget_2 rfl (lv_lk hl rfl) ?_
  refine lv_iload_n hx hb dL_forget_3 rfl (lv_lk hl rfl) ?_
  refine x_callC (own := RL) (name := xIS) (vx_runV ⟨hx, hb, hml, hown, hts⟩ hM (cwV 1 hts (gi_V ml_L_36 im_X5_forget sl_X5_forget it_X5 cd_X5_forget) rfl rfl rfl (by decide +kernel) ⟨Nat.le_of_ble_eq_true rfl, Nat.le_of_ble_eq_true rfl⟩) (by obtain ⟨fs, h9⟩ := ha _ hI; exact pX_V hK hKX (hZ.narrow (fun q h9 => Or.inl (hA1 q h9))) (h1 _ hI) h9 rfl) rfl rfl hl.1 rfl (lv_room (Nat.le_of_ble_eq_true rfl)) dL_forget_4 ⟨Nat.le_of_ble_eq_true rfl, Nat.le_of_ble_eq_true rfl⟩) (fun q h9 => Or.inl (hA1 q h9)) hS hown [⟨0, 9, 12, 13⟩] ⟨0, 9, 15, 31⟩ [] htb (fun z hz => by cases List.mem_singleton.mp hz; exact Or.inr ⟨by decide, xIO, hts _ cl_L_13, hKX.2.2 (xIS, xIO) (List.mem_of_getElem? (i := 1) rfl)⟩) rfl (by decide) (hts _ cl_L_31) (hKX.word xc_IS) (fun q H locs k1 k2 hp1 hS => ?_)
  refine lv_astore_n (lv' := [(3, .ref q), (0, .ref a), (1, .int x1), (2, .ref o)]) hx hb dL_forget_15 rfl hl (by decide) rfl (fun ls hl => ?_)
  refine iv_iconst hx hb dL_forget_16 ?_
  obtain ⟨v0, hO⟩ := hO.kept (k2 o hO.lt (fun h9 => hoA (hA1 o h9)))
  exact W.iret hx hb hrt (fun t ht hW => ⟨rfl, by rw [ht]; exact hPo _ _ hI k1 k2 hp1, ⟨v0, by rw [ht]; exact hO, fun h9 => by exfalso; omega⟩, hS.F ht⟩) hS.2.2 dL_forget_17 hlocks
set_option maxHeartbeats 4000000 in
set_option maxRecDepth 100000 in
theorem w_pass_ok (l : Launch) (E : Env3) (a o : Nat) (x1 : Int32) (v : Int) (A : Nat → Prop) (Pin Po : Heap → Prop) (ha : ∀ H, Pin H → ∃ fs, va_at E.1 vwCl (a, .inr (5, fs)) H) (hoA : ¬ A o) (hin : onA A Po) (hM : Met l yX5_pass (Cond.code yX5_pass cX5_pass 2 (some .int) :: ALL) ({ frames := 7, cells := 0, slots := 0, locals := 148 }) (pP [.ref a, .int x1] E Pin) (qH (some (.int (I v))) A Po) 0 0 A) : Met l yL_pass (Cond.codeWith yL_pass cL_pass 4 (some .int) [(0, 9, 12, 15), (0, 9, 15, 31)] :: ALL) ({ frames := 10, cells := 1, slots := 6, locals := 300 }) (pX [.ref a, .int x1, .ref o] E (fun q => A q ∨ q = o) (fun H => Pin H ∧ outA E o H)) (qO E A o 0 (I v).toInt64 Po) 1 6 (fun q => A q ∨ q = o) := by
  refine mk_w (by decide) rfl (Nat.le_of_ble_eq_true rfl) ?_
  intro p e s m args below meth c hx hb hrt hml hts hown hlocks htb hK hKX hZ hI ls hl
  have hown : s.vm.findClass RL = some m.cls := hown
  have hl : lv_has ls 4 [(0, .ref a), (1, .int x1), (2, .ref o)] := hl
  obtain ⟨hI, hO⟩ := hI
  have hS : va_S (fun q => A q ∨ q = o) s.heap s.heap [] := va_S.rf
  refine lv_aload_n hx hb dL_pass_0 rfl (lv_lk hl rfl) ?_
  refine iv_iconst hx hb dL_pass_1 ?_
  refine lv_aload_n hx hb dL_pass_2 rfl (lv_lk hl rfl) ?_
  refine lv_iload_n hx hb dL_pass_3 rfl (lv_lk hl rfl) ?_
  refine call_P (va_runV ⟨hx, hb, hml, hown, hts⟩ hM (cwV 1 hts (gi_V ml_L_39 im_X5_pass sl_X5_pass it_X5 cd_X5_pass) rfl rfl rfl (by decide +kernel) ⟨Nat.le_of_ble_eq_true rfl, Nat.le_of_ble_eq_true rfl⟩) (pP_V hK hI (ha _ hI) rfl) rfl rfl hl.1 rfl (lv_room (Nat.le_of_ble_eq_true rfl)) dL_pass_4 ⟨Nat.le_of_ble_eq_true rfl, Nat.le_of_ble_eq_true rfl⟩) (fun q h9 => Or.inl h9) hS rfl (fun H locs k1 k2 hPo hS => ?_)
  obtain ⟨v0, hO⟩ := hO.kept (k2 o hO.lt hoA)
  refine lv_i2l hx hb dL_pass_7 rfl ?_
  refine x_last hx hb hK hO (Or.inr rfl) hS dL_pass_8 (fun H1 locs hO1 z1 oq hS => ?_)
  refine lv_goto (tgt := 18) hx hb dL_pass_9 (by decide) ?_
  refine iv_iconst hx hb dL_pass_18 ?_
  refine W.widen (k := 1) (n := 6) (Nat.le_of_ble_eq_true rfl) (Nat.le_of_ble_eq_true rfl) ?_
  exact W.iret hx hb hrt (fun t ht hW => ⟨rfl, by rw [ht]; exact hin _ _ hPo (by omega) (fun q _ hq => oq q (fun e9 => hoA (e9 ▸ hq))), ⟨_, by rw [ht]; exact hO1, fun _ => rfl⟩, hS.F ht⟩) hS.2.2 dL_pass_19 hlocks
set_option maxHeartbeats 4000000 in
set_option maxRecDepth 100000 in
theorem w_pass_x1 (l : Launch) (E : Env3) (a o : Nat) (x1 : Int32) (A1 : Nat → Prop) (Pin1 Po1 : Heap → Prop) (A : Nat → Prop) (Pin Po : Heap → Prop) (ha : ∀ H, Pin H → ∃ fs, va_at E.1 vwCl (a, .inr (5, fs)) H) (hoA : ¬ A o) (hA1 : ∀ q, A1 q → A q) (h1 : ∀ H, Pin H → Pin1 H) (hPo : ∀ H H1 : Heap, Pin H → H.size ≤ H1.size → (∀ q : Nat, q < H.size → ¬ A1 q → H1[q]? = H[q]?) → Po1 H1 → Po H1) (hM : vx_Met l yX5_pass (Cond.code yX5_pass cX5_pass 2 (some .int) :: ALL) ({ frames := 7, cells := 1, slots := 6, locals := 148 }) (pX [.ref a, .int x1] E A1 Pin1) qF (xT xIA A1 Po1) 1 6 A1) : Met l yL_pass (Cond.codeWith yL_pass cL_pass 4 (some .int) [(0, 9, 12, 15), (0, 9, 15, 31)] :: ALL) ({ frames := 10, cells := 1, slots := 6, locals := 300 }) (pX [.ref a, .int x1, .ref o] E (fun q => A q ∨ q = o) (fun H => Pin H ∧ outA E o H)) (qO E A o 1 0 Po) 1 6 (fun q => A q ∨ q = o) := by
  refine mk_w (by decide) rfl (Nat.le_of_ble_eq_true rfl) ?_
  intro p e s m args below meth c hx hb hrt hml hts hown hlocks htb hK hKX hZ hI ls hl
  have hown : s.vm.findClass RL = some m.cls := hown
  have hl : lv_has ls 4 [(0, .ref a), (1, .int x1), (2, .ref o)] := hl
  obtain ⟨hI, hO⟩ := hI
  have hS : va_S (fun q => A q ∨ q = o) s.heap s.heap [] := va_S.rf
  refine lv_aload_n hx hb dL_pass_0 rfl (lv_lk hl rfl) ?_
  refine iv_iconst hx hb dL_pass_1 ?_
  refine lv_aload_n hx hb dL_pass_2 rfl (lv_lk hl rfl) ?_
  refine lv_iload_n hx hb dL_pass_3 rfl (lv_lk hl rfl) ?_
  refine x_callC (own := RL) (name := xIA) (vx_runV ⟨hx, hb, hml, hown, hts⟩ hM (cwV 1 hts (gi_V ml_L_39 im_X5_pass sl_X5_pass it_X5 cd_X5_pass) rfl rfl rfl (by decide +kernel) ⟨Nat.le_of_ble_eq_true rfl, Nat.le_of_ble_eq_true rfl⟩) (by obtain ⟨fs, h9⟩ := ha _ hI; exact pX_V hK hKX (hZ.narrow (fun q h9 => Or.inl (hA1 q h9))) (h1 _ hI) h9 rfl) rfl rfl hl.1 rfl (lv_room (Nat.le_of_ble_eq_true rfl)) dL_pass_4 ⟨Nat.le_of_ble_eq_true rfl, Nat.le_of_ble_eq_true rfl⟩) (fun q h9 => Or.inl (hA1 q h9)) hS hown [] ⟨0, 9, 12, 15⟩ [⟨0, 9, 15, 31⟩] htb (fun z hz => nomatch hz) rfl (by decide) (hts _ cl_L_15) (hKX.word xc_IA) (fun q H locs k1 k2 hp1 hS => ?_)
  refine lv_astore_n (lv' := [(3, .ref q), (0, .ref a), (1, .int x1), (2, .ref o)]) hx hb dL_pass_12 rfl hl (by decide) rfl (fun ls hl => ?_)
  refine iv_iconst hx hb dL_pass_13 ?_
  obtain ⟨v0, hO⟩ := hO.kept (k2 o hO.lt (fun h9 => hoA (hA1 o h9)))
  exact W.iret hx hb hrt (fun t ht hW => ⟨rfl, by rw [ht]; exact hPo _ _ hI k1 k2 hp1, ⟨v0, by rw [ht]; exact hO, fun h9 => by exfalso; omega⟩, hS.F ht⟩) hS.2.2 dL_pass_14 hlocks
set_option maxHeartbeats 4000000 in
set_option maxRecDepth 100000 in
theorem w_pass_x2 (l : Launch) (E : Env3) (a o : Nat) (x1 : Int32) (A1 : Nat → Prop) (Pin1 Po1 : Heap → Prop) (A : Nat → Prop) (Pin Po : Heap → Prop) (ha : ∀ H, Pin H → ∃ fs, va_at E.1 vwCl (a, .inr (5, fs)) H) (hoA : ¬ A o) (hA1 : ∀ q, A1 q → A q) (h1 : ∀ H, Pin H → Pin1 H) (hPo : ∀ H H1 : Heap, Pin H → H.size ≤ H1.size → (∀ q : Nat, q < H.size → ¬ A1 q → H1[q]? = H[q]?) → Po1 H1 → Po H1) (hM : vx_Met l yX5_pass (Cond.code yX5_pass cX5_pass 2 (some .int) :: ALL) ({ frames := 7, cells := 1, slots := 6, locals := 148 }) (pX [.ref a, .int x1] E A1 Pin1) qF (xT xIS A1 Po1) 1 6 A1) : Met l yL_pass (Cond.codeWith yL_pass cL_pass 4 (some .int) [(0, 9, 12, 15), (0, 9, 15, 31)] :: ALL) ({ frames := 10, cells := 1, slots := 6, locals := 300 }) (pX [.ref a, .int x1, .ref o] E (fun q => A q ∨ q = o) (fun H => Pin H ∧ outA E o H)) (qO E A o 2 0 Po) 1 6 (fun q => A q ∨ q = o) := by
  refine mk_w (by decide) rfl (Nat.le_of_ble_eq_true rfl) ?_
  intro p e s m args below meth c hx hb hrt hml hts hown hlocks htb hK hKX hZ hI ls hl
  have hown : s.vm.findClass RL = some m.cls := hown
  have hl : lv_has ls 4 [(0, .ref a), (1, .int x1), (2, .ref o)] := hl
  obtain ⟨hI, hO⟩ := hI
  have hS : va_S (fun q => A q ∨ q = o) s.heap s.heap [] := va_S.rf
  refine lv_aload_n hx hb dL_pass_0 rfl (lv_lk hl rfl) ?_
  refine iv_iconst hx hb dL_pass_1 ?_
  refine lv_aload_n hx hb dL_pass_2 rfl (lv_lk hl rfl) ?_
  refine lv_iload_n hx hb dL_pass_3 rfl (lv_lk hl rfl) ?_
  refine x_callC (own := RL) (name := xIS) (vx_runV ⟨hx, hb, hml, hown, hts⟩ hM (cwV 1 hts (gi_V ml_L_39 im_X5_pass sl_X5_pass it_X5 cd_X5_pass) rfl rfl rfl (by decide +kernel) ⟨Nat.le_of_ble_eq_true rfl, Nat.le_of_ble_eq_true rfl⟩) (by obtain ⟨fs, h9⟩ := ha _ hI; exact pX_V hK hKX (hZ.narrow (fun q h9 => Or.inl (hA1 q h9))) (h1 _ hI) h9 rfl) rfl rfl hl.1 rfl (lv_room (Nat.le_of_ble_eq_true rfl)) dL_pass_4 ⟨Nat.le_of_ble_eq_true rfl, Nat.le_of_ble_eq_true rfl⟩) (fun q h9 => Or.inl (hA1 q h9)) hS hown [⟨0, 9, 12, 15⟩] ⟨0, 9, 15, 31⟩ [] htb (fun z hz => by cases List.mem_singleton.mp hz; exact Or.inr ⟨by decide, xIA, hts _ cl_L_15, hKX.2.2 (xIS, xIA) (List.mem_of_getElem? (i := 2) rfl)⟩) rfl (by decide) (hts _ cl_L_31) (hKX.word xc_IS) (fun q H locs k1 k2 hp1 hS => ?_)
  refine lv_astore_n (lv' := [(3, .ref q), (0, .ref a), (1, .int x1), (2, .ref o)]) hx hb dL_pass_15 rfl hl (by decide) rfl (fun ls hl => ?_)
  refine iv_iconst hx hb dL_pass_16 ?_
  obtain ⟨v0, hO⟩ := hO.kept (k2 o hO.lt (fun h9 => hoA (hA1 o h9)))
  exact W.iret hx hb hrt (fun t ht hW => ⟨rfl, by rw [ht]; exact hPo _ _ hI k1 k2 hp1, ⟨v0, by rw [ht]; exact hO, fun h9 => by exfalso; omega⟩, hS.F ht⟩) hS.2.2 dL_pass_17 hlocks
set_option maxHeartbeats 4000000 in
set_option maxRecDepth 100000 in
theorem w_parentOf_ok (l : Launch) (E : Env3) (a o : Nat) (x1 : Int32) (v : Int) (A : Nat → Prop) (Pin Po : Heap → Prop) (ha : ∀ H, Pin H → ∃ fs, va_at E.1 vwCl (a, .inr (5, fs)) H) (hoA : ¬ A o) (hin : onA A Po) (hM : Met l yX5_parentOf (Cond.code yX5_parentOf cX5_parentOf 2 (some .int) :: ALL) ({ frames := 7, cells := 0, slots := 0, locals := 102 }) (pP [.ref a, .int x1] E Pin) (qH (some (.int (I v))) A Po) 0 0 A) : Met l yL_parentOf (Cond.codeWith yL_parentOf cL_parentOf 4 (some .int) [(0, 9, 12, 13)] :: ALL) ({ frames := 10, cells := 1, slots := 6, locals := 300 }) (pX [.ref a, .int x1, .ref o] E (fun q => A q ∨ q = o) (fun H => Pin H ∧ outA E o H)) (qO E A o 0 (I v).toInt64 Po) 1 6 (fun q => A q ∨ q = o) := by
  refine mk_w (by decide) rfl (Nat.le_of_ble_eq_true rfl) ?_
  intro p e s m args below meth c hx hb hrt hml hts hown hlocks htb hK hKX hZ hI ls hl
  have hown : s.vm.findClass RL = some m.cls := hown
  have hl : lv_has ls 4 [(0, .ref a), (1, .int x1), (2, .ref o)] := hl
  obtain ⟨hI, hO⟩ := hI
  have hS : va_S (fun q => A q ∨ q = o) s.heap s.heap [] := va_S.rf
  refine lv_aload_n hx hb dL_parentOf_0 rfl (lv_lk hl rfl) ?_
  refine iv_iconst hx hb dL_parentOf_1 ?_
  refine lv_aload_n hx hb dL_parentOf_2 rfl (lv_lk hl rfl) ?_
  refine lv_iload_n hx hb dL_parentOf_3 rfl (lv_lk hl rfl) ?_
  refine call_P (va_runV ⟨hx, hb, hml, hown, hts⟩ hM (cwV 1 hts (gi_V ml_L_42 im_X5_parentOf sl_X5_parentOf it_X5 cd_X5_parentOf) rfl rfl rfl (by decide +kernel) ⟨Nat.le_of_ble_eq_true rfl, Nat.le_of_ble_eq_true rfl⟩) (pP_V hK hI (ha _ hI) rfl) rfl rfl hl.1 rfl (lv_room (Nat.le_of_ble_eq_true rfl)) dL_parentOf_4 ⟨Nat.le_of_ble_eq_true rfl, Nat.le_of_ble_eq_true rfl⟩) (fun q h9 => Or.inl h9) hS rfl (fun H locs k1 k2 hPo hS => ?_)
  obtain ⟨v0, hO⟩ := hO.kept (k2 o hO.lt hoA)
  refine lv_i2l hx hb dL_parentOf_7 rfl ?_
  refine x_last hx hb hK hO (Or.inr rfl) hS dL_parentOf_8 (fun H1 locs hO1 z1 oq hS => ?_)
  refine lv_goto (tgt := 15) hx hb dL_parentOf_9 (by decide) ?_
  refine iv_iconst hx hb dL_parentOf_15 ?_
  refine W.widen (k := 1) (n := 6) (Nat.le_of_ble_eq_true rfl) (Nat.le_of_ble_eq_true rfl) ?_
  exact W.iret hx hb hrt (fun t ht hW => ⟨rfl, by rw [ht]; exact hin _ _ hPo (by omega) (fun q _ hq => oq q (fun e9 => hoA (e9 ▸ hq))), ⟨_, by rw [ht]; exact hO1, fun _ => rfl⟩, hS.F ht⟩) hS.2.2 dL_parentOf_16 hlocks
set_option maxHeartbeats 4000000 in
set_option maxRecDepth 100000 in
theorem w_parentOf_x1 (l : Launch) (E : Env3) (a o : Nat) (x1 : Int32) (A1 : Nat → Prop) (Pin1 Po1 : Heap → Prop) (A : Nat → Prop) (Pin Po : Heap → Prop) (ha : ∀ H, Pin H → ∃ fs, va_at E.1 vwCl (a, .inr (5, fs)) H) (hoA : ¬ A o) (hA1 : ∀ q, A1 q → A q) (h1 : ∀ H, Pin H → Pin1 H) (hPo : ∀ H H1 : Heap, Pin H → H.size ≤ H1.size → (∀ q : Nat, q < H.size → ¬ A1 q → H1[q]? = H[q]?) → Po1 H1 → Po H1) (hM : vx_Met l yX5_parentOf (Cond.code yX5_parentOf cX5_parentOf 2 (some .int) :: ALL) ({ frames := 7, cells := 1, slots := 6, locals := 102 }) (pX [.ref a, .int x1] E A1 Pin1) qF (xT xIO A1 Po1) 1 6 A1) : Met l yL_parentOf (Cond.codeWith yL_parentOf cL_parentOf 4 (some .int) [(0, 9, 12, 13)] :: ALL) ({ frames := 10, cells := 1, slots := 6, locals := 300 }) (pX [.ref a, .int x1, .ref o] E (fun q => A q ∨ q = o) (fun H => Pin H ∧ outA E o H)) (qO E A o 1 0 Po) 1 6 (fun q => A q ∨ q = o) := by
  refine mk_w (by decide) rfl (Nat.le_of_ble_eq_true rfl) ?_
  intro p e s m args below meth c hx hb hrt hml hts hown hlocks htb hK hKX hZ hI ls hl
  have hown : s.vm.findClass RL = some m.cls := hown
  have hl : lv_has ls 4 [(0, .ref a), (1, .int x1), (2, .ref o)] := hl
  obtain ⟨hI, hO⟩ := hI
  have hS : va_S (fun q => A q ∨ q = o) s.heap s.heap [] := va_S.rf
  refine lv_aload_n hx hb dL_parentOf_0 rfl (lv_lk hl rfl) ?_
  refine iv_iconst hx hb dL_parentOf_1 ?_
  refine lv_aload_n hx hb dL_parentOf_2 rfl (lv_lk hl rfl) ?_
  refine lv_iload_n hx hb dL_parentOf_3 rfl (lv_lk hl rfl) ?_
  refine x_callC (own := RL) (name := xIO) (vx_runV ⟨hx, hb, hml, hown, hts⟩ hM (cwV 1 hts (gi_V ml_L_42 im_X5_parentOf sl_X5_parentOf it_X5 cd_X5_parentOf) rfl rfl rfl (by decide +kernel) ⟨Nat.le_of_ble_eq_true rfl, Nat.le_of_ble_eq_true rfl⟩) (by obtain ⟨fs, h9⟩ := ha _ hI; exact pX_V hK hKX (hZ.narrow (fun q h9 => Or.inl (hA1 q h9))) (h1 _ hI) h9 rfl) rfl rfl hl.1 rfl (lv_room (Nat.le_of_ble_eq_true rfl)) dL_parentOf_4 ⟨Nat.le_of_ble_eq_true rfl, Nat.le_of_ble_eq_true rfl⟩) (fun q h9 => Or.inl (hA1 q h9)) hS hown [] ⟨0, 9, 12, 13⟩ [] htb (fun z hz => nomatch hz) rfl (by decide) (hts _ cl_L_13) (hKX.word xc_IO) (fun q H locs k1 k2 hp1 hS => ?_)
  refine lv_astore_n (lv' := [(3, .ref q), (0, .ref a), (1, .int x1), (2, .ref o)]) hx hb dL_parentOf_12 rfl hl (by decide) rfl (fun ls hl => ?_)
  refine iv_iconst hx hb dL_parentOf_13 ?_
  obtain ⟨v0, hO⟩ := hO.kept (k2 o hO.lt (fun h9 => hoA (hA1 o h9)))
  exact W.iret hx hb hrt (fun t ht hW => ⟨rfl, by rw [ht]; exact hPo _ _ hI k1 k2 hp1, ⟨v0, by rw [ht]; exact hO, fun h9 => by exfalso; omega⟩, hS.F ht⟩) hS.2.2 dL_parentOf_14 hlocks
set_option maxHeartbeats 4000000 in
set_option maxRecDepth 100000 in
theorem w_depthOf_ok (l : Launch) (E : Env3) (a o : Nat) (x1 : Int32) (v : Int) (A : Nat → Prop) (Pin Po : Heap → Prop) (ha : ∀ H, Pin H → ∃ fs, va_at E.1 vwCl (a, .inr (5, fs)) H) (hoA : ¬ A o) (hin : onA A Po) (hM : Met l yX5_depthOf (Cond.code yX5_depthOf cX5_depthOf 2 (some .int) :: ALL) ({ frames := 7, cells := 0, slots := 0, locals := 102 }) (pP [.ref a, .int x1] E Pin) (qH (some (.int (I v))) A Po) 0 0 A) : Met l yL_depthOf (Cond.codeWith yL_depthOf cL_depthOf 4 (some .int) [(0, 9, 12, 13)] :: ALL) ({ frames := 10, cells := 1, slots := 6, locals := 300 }) (pX [.ref a, .int x1, .ref o] E (fun q => A q ∨ q = o) (fun H => Pin H ∧ outA E o H)) (qO E A o 0 (I v).toInt64 Po) 1 6 (fun q => A q ∨ q = o) := by
  refine mk_w (by decide) rfl (Nat.le_of_ble_eq_true rfl) ?_
  intro p e s m args below meth c hx hb hrt hml hts hown hlocks htb hK hKX hZ hI ls hl
  have hown : s.vm.findClass RL = some m.cls := hown
  have hl : lv_has ls 4 [(0, .ref a), (1, .int x1), (2, .ref o)] := hl
  obtain ⟨hI, hO⟩ := hI
  have hS : va_S (fun q => A q ∨ q = o) s.heap s.heap [] := va_S.rf
  refine lv_aload_n hx hb dL_depthOf_0 rfl (lv_lk hl rfl) ?_
  refine iv_iconst hx hb dL_depthOf_1 ?_
  refine lv_aload_n hx hb dL_depthOf_2 rfl (lv_lk hl rfl) ?_
  refine lv_iload_n hx hb dL_depthOf_3 rfl (lv_lk hl rfl) ?_
  refine call_P (va_runV ⟨hx, hb, hml, hown, hts⟩ hM (cwV 1 hts (gi_V ml_L_45 im_X5_depthOf sl_X5_depthOf it_X5 cd_X5_depthOf) rfl rfl rfl (by decide +kernel) ⟨Nat.le_of_ble_eq_true rfl, Nat.le_of_ble_eq_true rfl⟩) (pP_V hK hI (ha _ hI) rfl) rfl rfl hl.1 rfl (lv_room (Nat.le_of_ble_eq_true rfl)) dL_depthOf_4 ⟨Nat.le_of_ble_eq_true rfl, Nat.le_of_ble_eq_true rfl⟩) (fun q h9 => Or.inl h9) hS rfl (fun H locs k1 k2 hPo hS => ?_)
  obtain ⟨v0, hO⟩ := hO.kept (k2 o hO.lt hoA)
  refine lv_i2l hx hb dL_depthOf_7 rfl ?_
  refine x_last hx hb hK hO (Or.inr rfl) hS dL_depthOf_8 (fun H1 locs hO1 z1 oq hS => ?_)
  refine lv_goto (tgt := 15) hx hb dL_depthOf_9 (by decide) ?_
  refine iv_iconst hx hb dL_depthOf_15 ?_
  refine W.widen (k := 1) (n := 6) (Nat.le_of_ble_eq_true rfl) (Nat.le_of_ble_eq_true rfl) ?_
  exact W.iret hx hb hrt (fun t ht hW => ⟨rfl, by rw [ht]; exact hin _ _ hPo (by omega) (fun q _ hq => oq q (fun e9 => hoA (e9 ▸ hq))), ⟨_, by rw [ht]; exact hO1, fun _ => rfl⟩, hS.F ht⟩) hS.2.2 dL_depthOf_16 hlocks
set_option maxHeartbeats 4000000 in
set_option maxRecDepth 100000 in
theorem w_depthOf_x1 (l : Launch) (E : Env3) (a o : Nat) (x1 : Int32) (A1 : Nat → Prop) (Pin1 Po1 : Heap → Prop) (A : Nat → Prop) (Pin Po : Heap → Prop) (ha : ∀ H, Pin H → ∃ fs, va_at E.1 vwCl (a, .inr (5, fs)) H) (hoA : ¬ A o) (hA1 : ∀ q, A1 q → A q) (h1 : ∀ H, Pin H → Pin1 H) (hPo : ∀ H H1 : Heap, Pin H → H.size ≤ H1.size → (∀ q : Nat, q < H.size → ¬ A1 q → H1[q]? = H[q]?) → Po1 H1 → Po H1) (hM : vx_Met l yX5_depthOf (Cond.code yX5_depthOf cX5_depthOf 2 (some .int) :: ALL) ({ frames := 7, cells := 1, slots := 6, locals := 102 }) (pX [.ref a, .int x1] E A1 Pin1) qF (xT xIO A1 Po1) 1 6 A1) : Met l yL_depthOf (Cond.codeWith yL_depthOf cL_depthOf 4 (some .int) [(0, 9, 12, 13)] :: ALL) ({ frames := 10, cells := 1, slots := 6, locals := 300 }) (pX [.ref a, .int x1, .ref o] E (fun q => A q ∨ q = o) (fun H => Pin H ∧ outA E o H)) (qO E A o 1 0 Po) 1 6 (fun q => A q ∨ q = o) := by
  refine mk_w (by decide) rfl (Nat.le_of_ble_eq_true rfl) ?_
  intro p e s m args below meth c hx hb hrt hml hts hown hlocks htb hK hKX hZ hI ls hl
  have hown : s.vm.findClass RL = some m.cls := hown
  have hl : lv_has ls 4 [(0, .ref a), (1, .int x1), (2, .ref o)] := hl
  obtain ⟨hI, hO⟩ := hI
  have hS : va_S (fun q => A q ∨ q = o) s.heap s.heap [] := va_S.rf
  refine lv_aload_n hx hb dL_depthOf_0 rfl (lv_lk hl rfl) ?_
  refine iv_iconst hx hb dL_depthOf_1 ?_
  refine lv_aload_n hx hb dL_depthOf_2 rfl (lv_lk hl rfl) ?_
  refine lv_iload_n hx hb dL_depthOf_3 rfl (lv_lk hl rfl) ?_
  refine x_callC (own := RL) (name := xIO) (vx_runV ⟨hx, hb, hml, hown, hts⟩ hM (cwV 1 hts (gi_V ml_L_45 im_X5_depthOf sl_X5_depthOf it_X5 cd_X5_depthOf) rfl rfl rfl (by decide +kernel) ⟨Nat.le_of_ble_eq_true rfl, Nat.le_of_ble_eq_true rfl⟩) (by obtain ⟨fs, h9⟩ := ha _ hI; exact pX_V hK hKX (hZ.narrow (fun q h9 => Or.inl (hA1 q h9))) (h1 _ hI) h9 rfl) rfl rfl hl.1 rfl (lv_room (Nat.le_of_ble_eq_true rfl)) dL_depthOf_4 ⟨Nat.le_of_ble_eq_true rfl, Nat.le_of_ble_eq_true rfl⟩) (fun q h9 => Or.inl (hA1 q h9)) hS hown [] ⟨0, 9, 12, 13⟩ [] htb (fun z hz => nomatch hz) rfl (by decide) (hts _ cl_L_13) (hKX.word xc_IO) (fun q H locs k1 k2 hp1 hS => ?_)
  refine lv_astore_n (lv' := [(3, .ref q), (0, .ref a), (1, .int x1), (2, .ref o)]) hx hb dL_depthOf_12 rfl hl (by decide) rfl (fun ls hl => ?_)
  refine iv_iconst hx hb dL_depthOf_13 ?_
  obtain ⟨v0, hO⟩ := hO.kept (k2 o hO.lt (fun h9 => hoA (hA1 o h9)))
  exact W.iret hx hb hrt (fun t ht hW => ⟨rfl, by rw [ht]; exact hPo _ _ hI k1 k2 hp1, ⟨v0, by rw [ht]; exact hO, fun h9 => by exfalso; omega⟩, hS.F ht⟩) hS.2.2 dL_depthOf_14 hlocks
set_option maxHeartbeats 4000000 in
set_option maxRecDepth 100000 in
theorem w_kindOf_ok (l : Launch) (E : Env3) (a o : Nat) (x1 : Int32) (v : Int) (A : Nat → Prop) (Pin Po : Heap → Prop) (ha : ∀ H, Pin H → ∃ fs, va_at E.1 vwCl (a, .inr (5, fs)) H) (hoA : ¬ A o) (hin : onA A Po) (hM : Met l yX5_kindOf (Cond.code yX5_kindOf cX5_kindOf 2 (some .int) :: ALL) ({ frames := 7, cells := 0, slots := 0, locals := 102 }) (pP [.ref a, .int x1] E Pin) (qH (some (.int (I v))) A Po) 0 0 A) : Met l yL_kindOf (Cond.codeWith yL_kindOf cL_kindOf 4 (some .int) [(0, 9, 12, 13)] :: ALL) ({ frames := 10, cells := 1, slots := 6, locals := 300 }) (pX [.ref a, .int x1, .ref o] E (fun q => A q ∨ q = o) (fun H => Pin H ∧ outA E o H)) (qO E A o 0 (I v).toInt64 Po) 1 6 (fun q => A q ∨ q = o) := by
  refine mk_w (by decide) rfl (Nat.le_of_ble_eq_true rfl) ?_
  intro p e s m args below meth c hx hb hrt hml hts hown hlocks htb hK hKX hZ hI ls hl
  have hown : s.vm.findClass RL = some m.cls := hown
  have hl : lv_has ls 4 [(0, .ref a), (1, .int x1), (2, .ref o)] := hl
  obtain ⟨hI, hO⟩ := hI
  have hS : va_S (fun q => A q ∨ q = o) s.heap s.heap [] := va_S.rf
  refine lv_aload_n hx hb dL_kindOf_0 rfl (lv_lk hl rfl) ?_
  refine iv_iconst hx hb dL_kindOf_1 ?_
  refine lv_aload_n hx hb dL_kindOf_2 rfl (lv_lk hl rfl) ?_
  refine lv_iload_n hx hb dL_kindOf_3 rfl (lv_lk hl rfl) ?_
  refine call_P (va_runV ⟨hx, hb, hml, hown, hts⟩ hM (cwV 1 hts (gi_V ml_L_48 im_X5_kindOf sl_X5_kindOf it_X5 cd_X5_kindOf) rfl rfl rfl (by decide +kernel) ⟨Nat.le_of_ble_eq_true rfl, Nat.le_of_ble_eq_true rfl⟩) (pP_V hK hI (ha _ hI) rfl) rfl rfl hl.1 rfl (lv_room (Nat.le_of_ble_eq_true rfl)) dL_kindOf_4 ⟨Nat.le_of_ble_eq_true rfl, Nat.le_of_ble_eq_true rfl⟩) (fun q h9 => Or.inl h9) hS rfl (fun H locs k1 k2 hPo hS => ?_)
  obtain ⟨v0, hO⟩ := hO.kept (k2 o hO.lt hoA)
  refine lv_i2l hx hb dL_kindOf_7 rfl ?_
  refine x_last hx hb hK hO (Or.inr rfl) hS dL_kindOf_8 (fun H1 locs hO1 z1 oq hS => ?_)
  refine lv_goto (tgt := 15) hx hb dL_kindOf_9 (by decide) ?_
  refine iv_iconst hx hb dL_kindOf_15 ?_
  refine W.widen (k := 1) (n := 6) (Nat.le_of_ble_eq_true rfl) (Nat.le_of_ble_eq_true rfl) ?_
  exact W.iret hx hb hrt (fun t ht hW => ⟨rfl, by rw [ht]; exact hin _ _ hPo (by omega) (fun q _ hq => oq q (fun e9 => hoA (e9 ▸ hq))), ⟨_, by rw [ht]; exact hO1, fun _ => rfl⟩, hS.F ht⟩) hS.2.2 dL_kindOf_16 hlocks
set_option maxHeartbeats 4000000 in
set_option maxRecDepth 100000 in
theorem w_kindOf_x1 (l : Launch) (E : Env3) (a o : Nat) (x1 : Int32) (A1 : Nat → Prop) (Pin1 Po1 : Heap → Prop) (A : Nat → Prop) (Pin Po : Heap → Prop) (ha : ∀ H, Pin H → ∃ fs, va_at E.1 vwCl (a, .inr (5, fs)) H) (hoA : ¬ A o) (hA1 : ∀ q, A1 q → A q) (h1 : ∀ H, Pin H → Pin1 H) (hPo : ∀ H H1 : Heap, Pin H → H.size ≤ H1.size → (∀ q : Nat, q < H.size → ¬ A1 q → H1[q]? = H[q]?) → Po1 H1 → Po H1) (hM : vx_Met l yX5_kindOf (Cond.code yX5_kindOf cX5_kindOf 2 (some .int) :: ALL) ({ frames := 7, cells := 1, slots := 6, locals := 102 }) (pX [.ref a, .int x1] E A1 Pin1) qF (xT xIO A1 Po1) 1 6 A1) : Met l yL_kindOf (Cond.codeWith yL_kindOf cL_kindOf 4 (some .int) [(0, 9, 12, 13)] :: ALL) ({ frames := 10, cells := 1, slots := 6, locals := 300 }) (pX [.ref a, .int x1, .ref o] E (fun q => A q ∨ q = o) (fun H => Pin H ∧ outA E o H)) (qO E A o 1 0 Po) 1 6 (fun q => A q ∨ q = o) := by
  refine mk_w (by decide) rfl (Nat.le_of_ble_eq_true rfl) ?_
  intro p e s m args below meth c hx hb hrt hml hts hown hlocks htb hK hKX hZ hI ls hl
  have hown : s.vm.findClass RL = some m.cls := hown
  have hl : lv_has ls 4 [(0, .ref a), (1, .int x1), (2, .ref o)] := hl
  obtain ⟨hI, hO⟩ := hI
  have hS : va_S (fun q => A q ∨ q = o) s.heap s.heap [] := va_S.rf
  refine lv_aload_n hx hb dL_kindOf_0 rfl (lv_lk hl rfl) ?_
  refine iv_iconst hx hb dL_kindOf_1 ?_
  refine lv_aload_n hx hb dL_kindOf_2 rfl (lv_lk hl rfl) ?_
  refine lv_iload_n hx hb dL_kindOf_3 rfl (lv_lk hl rfl) ?_
  refine x_callC (own := RL) (name := xIO) (vx_runV ⟨hx, hb, hml, hown, hts⟩ hM (cwV 1 hts (gi_V ml_L_48 im_X5_kindOf sl_X5_kindOf it_X5 cd_X5_kindOf) rfl rfl rfl (by decide +kernel) ⟨Nat.le_of_ble_eq_true rfl, Nat.le_of_ble_eq_true rfl⟩) (by obtain ⟨fs, h9⟩ := ha _ hI; exact pX_V hK hKX (hZ.narrow (fun q h9 => Or.inl (hA1 q h9))) (h1 _ hI) h9 rfl) rfl rfl hl.1 rfl (lv_room (Nat.le_of_ble_eq_true rfl)) dL_kindOf_4 ⟨Nat.le_of_ble_eq_true rfl, Nat.le_of_ble_eq_true rfl⟩) (fun q h9 => Or.inl (hA1 q h9)) hS hown [] ⟨0, 9, 12, 13⟩ [] htb (fun z hz => nomatch hz) rfl (by decide) (hts _ cl_L_13) (hKX.word xc_IO) (fun q H locs k1 k2 hp1 hS => ?_)
  refine lv_astore_n (lv' := [(3, .ref q), (0, .ref a), (1, .int x1), (2, .ref o)]) hx hb dL_kindOf_12 rfl hl (by decide) rfl (fun ls hl => ?_)
  refine iv_iconst hx hb dL_kindOf_13 ?_
  obtain ⟨v0, hO⟩ := hO.kept (k2 o hO.lt (fun h9 => hoA (hA1 o h9)))
  exact W.iret hx hb hrt (fun t ht hW => ⟨rfl, by rw [ht]; exact hPo _ _ hI k1 k2 hp1, ⟨v0, by rw [ht]; exact hO, fun h9 => by exfalso; omega⟩, hS.F ht⟩) hS.2.2 dL_kindOf_14 hlocks
set_option maxHeartbeats 4000000 in
set_option maxRecDepth 100000 in
theorem w_valueOf_ok (l : Launch) (E : Env3) (a o : Nat) (x1 : Int32) (v : Int) (A : Nat → Prop) (Pin Po : Heap → Prop) (ha : ∀ H, Pin H → ∃ fs, va_at E.1 vwCl (a, .inr (5, fs)) H) (hoA : ¬ A o) (hin : onA A Po) (hM : Met l yX5_valueOf (Cond.code yX5_valueOf cX5_valueOf 2 (some .int) :: ALL) ({ frames := 7, cells := 0, slots := 0, locals := 102 }) (pP [.ref a, .int x1] E Pin) (qH (some (.int (I v))) A Po) 0 0 A) : Met l yL_valueOf (Cond.codeWith yL_valueOf cL_valueOf 4 (some .int) [(0, 9, 12, 13)] :: ALL) ({ frames := 10, cells := 1, slots := 6, locals := 300 }) (pX [.ref a, .int x1, .ref o] E (fun q => A q ∨ q = o) (fun H => Pin H ∧ outA E o H)) (qO E A o 0 (I v).toInt64 Po) 1 6 (fun q => A q ∨ q = o) := by
  refine mk_w (by decide) rfl (Nat.le_of_ble_eq_true rfl) ?_
  intro p e s m args below meth c hx hb hrt hml hts hown hlocks htb hK hKX hZ hI ls hl
  have hown : s.vm.findClass RL = some m.cls := hown
  have hl : lv_has ls 4 [(0, .ref a), (1, .int x1), (2, .ref o)] := hl
  obtain ⟨hI, hO⟩ := hI
  have hS : va_S (fun q => A q ∨ q = o) s.heap s.heap [] := va_S.rf
  refine lv_aload_n hx hb dL_valueOf_0 rfl (lv_lk hl rfl) ?_
  refine iv_iconst hx hb dL_valueOf_1 ?_
  refine lv_aload_n hx hb dL_valueOf_2 rfl (lv_lk hl rfl) ?_
  refine lv_iload_n hx hb dL_valueOf_3 rfl (lv_lk hl rfl) ?_
  refine call_P (va_runV ⟨hx, hb, hml, hown, hts⟩ hM (cwV 1 hts (gi_V ml_L_51 im_X5_valueOf sl_X5_valueOf it_X5 cd_X5_valueOf) rfl rfl rfl (by decide +kernel) ⟨Nat.le_of_ble_eq_true rfl, Nat.le_of_ble_eq_true rfl⟩) (pP_V hK hI (ha _ hI) rfl) rfl rfl hl.1 rfl (lv_room (Nat.le_of_ble_eq_true rfl)) dL_valueOf_4 ⟨Nat.le_of_ble_eq_true rfl, Nat.le_of_ble_eq_true rfl⟩) (fun q h9 => Or.inl h9) hS rfl (fun H locs k1 k2 hPo hS => ?_)
  obtain ⟨v0, hO⟩ := hO.kept (k2 o hO.lt hoA)
  refine lv_i2l hx hb dL_valueOf_7 rfl ?_
  refine x_last hx hb hK hO (Or.inr rfl) hS dL_valueOf_8 (fun H1 locs hO1 z1 oq hS => ?_)
  refine lv_goto (tgt := 15) hx hb dL_valueOf_9 (by decide) ?_
  refine iv_iconst hx hb dL_valueOf_15 ?_
  refine W.widen (k := 1) (n := 6) (Nat.le_of_ble_eq_true rfl) (Nat.le_of_ble_eq_true rfl) ?_
  exact W.iret hx hb hrt (fun t ht hW => ⟨rfl, by rw [ht]; exact hin _ _ hPo (by omega) (fun q _ hq => oq q (fun e9 => hoA (e9 ▸ hq))), ⟨_, by rw [ht]; exact hO1, fun _ => rfl⟩, hS.F ht⟩) hS.2.2 dL_valueOf_16 hlocks
set_option maxHeartbeats 4000000 in
set_option maxRecDepth 100000 in
theorem w_valueOf_x1 (l : Launch) (E : Env3) (a o : Nat) (x1 : Int32) (A1 : Nat → Prop) (Pin1 Po1 : Heap → Prop) (A : Nat → Prop) (Pin Po : Heap → Prop) (ha : ∀ H, Pin H → ∃ fs, va_at E.1 vwCl (a, .inr (5, fs)) H) (hoA : ¬ A o) (hA1 : ∀ q, A1 q → A q) (h1 : ∀ H, Pin H → Pin1 H) (hPo : ∀ H H1 : Heap, Pin H → H.size ≤ H1.size → (∀ q : Nat, q < H.size → ¬ A1 q → H1[q]? = H[q]?) → Po1 H1 → Po H1) (hM : vx_Met l yX5_valueOf (Cond.code yX5_valueOf cX5_valueOf 2 (some .int) :: ALL) ({ frames := 7, cells := 1, slots := 6, locals := 102 }) (pX [.ref a, .int x1] E A1 Pin1) qF (xT xIO A1 Po1) 1 6 A1) : Met l yL_valueOf (Cond.codeWith yL_valueOf cL_valueOf 4 (some .int) [(0, 9, 12, 13)] :: ALL) ({ frames := 10, cells := 1, slots := 6, locals := 300 }) (pX [.ref a, .int x1, .ref o] E (fun q => A q ∨ q = o) (fun H => Pin H ∧ outA E o H)) (qO E A o 1 0 Po) 1 6 (fun q => A q ∨ q = o) := by
  refine mk_w (by decide) rfl (Nat.le_of_ble_eq_true rfl) ?_
  intro p e s m args below meth c hx hb hrt hml hts hown hlocks htb hK hKX hZ hI ls hl
  have hown : s.vm.findClass RL = some m.cls := hown
  have hl : lv_has ls 4 [(0, .ref a), (1, .int x1), (2, .ref o)] := hl
  obtain ⟨hI, hO⟩ := hI
  have hS : va_S (fun q => A q ∨ q = o) s.heap s.heap [] := va_S.rf
  refine lv_aload_n hx hb dL_valueOf_0 rfl (lv_lk hl rfl) ?_
  refine iv_iconst hx hb dL_valueOf_1 ?_
  refine lv_aload_n hx hb dL_valueOf_2 rfl (lv_lk hl rfl) ?_
  refine lv_iload_n hx hb dL_valueOf_3 rfl (lv_lk hl rfl) ?_
  refine x_callC (own := RL) (name := xIO) (vx_runV ⟨hx, hb, hml, hown, hts⟩ hM (cwV 1 hts (gi_V ml_L_51 im_X5_valueOf sl_X5_valueOf it_X5 cd_X5_valueOf) rfl rfl rfl (by decide +kernel) ⟨Nat.le_of_ble_eq_true rfl, Nat.le_of_ble_eq_true rfl⟩) (by obtain ⟨fs, h9⟩ := ha _ hI; exact pX_V hK hKX (hZ.narrow (fun q h9 => Or.inl (hA1 q h9))) (h1 _ hI) h9 rfl) rfl rfl hl.1 rfl (lv_room (Nat.le_of_ble_eq_true rfl)) dL_valueOf_4 ⟨Nat.le_of_ble_eq_true rfl, Nat.le_of_ble_eq_true rfl⟩) (fun q h9 => Or.inl (hA1 q h9)) hS hown [] ⟨0, 9, 12, 13⟩ [] htb (fun z hz => nomatch hz) rfl (by decide) (hts _ cl_L_13) (hKX.word xc_IO) (fun q H locs k1 k2 hp1 hS => ?_)
  refine lv_astore_n (lv' := [(3, .ref q), (0, .ref a), (1, .int x1), (2, .ref o)]) hx hb dL_valueOf_12 rfl hl (by decide) rfl (fun ls hl => ?_)
  refine iv_iconst hx hb dL_valueOf_13 ?_
  obtain ⟨v0, hO⟩ := hO.kept (k2 o hO.lt (fun h9 => hoA (hA1 o h9)))
  exact W.iret hx hb hrt (fun t ht hW => ⟨rfl, by rw [ht]; exact hPo _ _ hI k1 k2 hp1, ⟨v0, by rw [ht]; exact hO, fun h9 => by exfalso; omega⟩, hS.F ht⟩) hS.2.2 dL_valueOf_14 hlocks
set_option maxHeartbeats 4000000 in
set_option maxRecDepth 100000 in
theorem w_truthOf_ok (l : Launch) (E : Env3) (a o : Nat) (x1 : Int32) (v : Int) (A : Nat → Prop) (Pin Po : Heap → Prop) (ha : ∀ H, Pin H → ∃ fs, va_at E.1 vwCl (a, .inr (5, fs)) H) (hoA : ¬ A o) (hin : onA A Po) (hM : Met l yX5_truthOf (Cond.code yX5_truthOf cX5_truthOf 2 (some .int) :: ALL) ({ frames := 7, cells := 0, slots := 0, locals := 102 }) (pP [.ref a, .int x1] E Pin) (qH (some (.int (I v))) A Po) 0 0 A) : Met l yL_truthOf (Cond.codeWith yL_truthOf cL_truthOf 4 (some .int) [(0, 9, 12, 13)] :: ALL) ({ frames := 10, cells := 1, slots := 6, locals := 300 }) (pX [.ref a, .int x1, .ref o] E (fun q => A q ∨ q = o) (fun H => Pin H ∧ outA E o H)) (qO E A o 0 (I v).toInt64 Po) 1 6 (fun q => A q ∨ q = o) := by
  refine mk_w (by decide) rfl (Nat.le_of_ble_eq_true rfl) ?_
  intro p e s m args below meth c hx hb hrt hml hts hown hlocks htb hK hKX hZ hI ls hl
  have hown : s.vm.findClass RL = some m.cls := hown
  have hl : lv_has ls 4 [(0, .ref a), (1, .int x1), (2, .ref o)] := hl
  obtain ⟨hI, hO⟩ := hI
  have hS : va_S (fun q => A q ∨ q = o) s.heap s.heap [] := va_S.rf
  refine lv_aload_n hx hb dL_truthOf_0 rfl (lv_lk hl rfl) ?_
  refine iv_iconst hx hb dL_truthOf_1 ?_
  refine lv_aload_n hx hb dL_truthOf_2 rfl (lv_lk hl rfl) ?_
  refine lv_iload_n hx hb dL_truthOf_3 rfl (lv_lk hl rfl) ?_
  refine call_P (va_runV ⟨hx, hb, hml, hown, hts⟩ hM (cwV 1 hts (gi_V ml_L_54 im_X5_truthOf sl_X5_truthOf it_X5 cd_X5_truthOf) rfl rfl rfl (by decide +kernel) ⟨Nat.le_of_ble_eq_true rfl, Nat.le_of_ble_eq_true rfl⟩) (pP_V hK hI (ha _ hI) rfl) rfl rfl hl.1 rfl (lv_room (Nat.le_of_ble_eq_true rfl)) dL_truthOf_4 ⟨Nat.le_of_ble_eq_true rfl, Nat.le_of_ble_eq_true rfl⟩) (fun q h9 => Or.inl h9) hS rfl (fun H locs k1 k2 hPo hS => ?_)
  obtain ⟨v0, hO⟩ := hO.kept (k2 o hO.lt hoA)
  refine lv_i2l hx hb dL_truthOf_7 rfl ?_
  refine x_last hx hb hK hO (Or.inr rfl) hS dL_truthOf_8 (fun H1 locs hO1 z1 oq hS => ?_)
  refine lv_goto (tgt := 15) hx hb dL_truthOf_9 (by decide) ?_
  refine iv_iconst hx hb dL_truthOf_15 ?_
  refine W.widen (k := 1) (n := 6) (Nat.le_of_ble_eq_true rfl) (Nat.le_of_ble_eq_true rfl) ?_
  exact W.iret hx hb hrt (fun t ht hW => ⟨rfl, by rw [ht]; exact hin _ _ hPo (by omega) (fun q _ hq => oq q (fun e9 => hoA (e9 ▸ hq))), ⟨_, by rw [ht]; exact hO1, fun _ => rfl⟩, hS.F ht⟩) hS.2.2 dL_truthOf_16 hlocks
set_option maxHeartbeats 4000000 in
set_option maxRecDepth 100000 in
theorem w_truthOf_x1 (l : Launch) (E : Env3) (a o : Nat) (x1 : Int32) (A1 : Nat → Prop) (Pin1 Po1 : Heap → Prop) (A : Nat → Prop) (Pin Po : Heap → Prop) (ha : ∀ H, Pin H → ∃ fs, va_at E.1 vwCl (a, .inr (5, fs)) H) (hoA : ¬ A o) (hA1 : ∀ q, A1 q → A q) (h1 : ∀ H, Pin H → Pin1 H) (hPo : ∀ H H1 : Heap, Pin H → H.size ≤ H1.size → (∀ q : Nat, q < H.size → ¬ A1 q → H1[q]? = H[q]?) → Po1 H1 → Po H1) (hM : vx_Met l yX5_truthOf (Cond.code yX5_truthOf cX5_truthOf 2 (some .int) :: ALL) ({ frames := 7, cells := 1, slots := 6, locals := 102 }) (pX [.ref a, .int x1] E A1 Pin1) qF (xT xIO A1 Po1) 1 6 A1) : Met l yL_truthOf (Cond.codeWith yL_truthOf cL_truthOf 4 (some .int) [(0, 9, 12, 13)] :: ALL) ({ frames := 10, cells := 1, slots := 6, locals := 300 }) (pX [.ref a, .int x1, .ref o] E (fun q => A q ∨ q = o) (fun H => Pin H ∧ outA E o H)) (qO E A o 1 0 Po) 1 6 (fun q => A q ∨ q = o) := by
  refine mk_w (by decide) rfl (Nat.le_of_ble_eq_true rfl) ?_
  intro p e s m args below meth c hx hb hrt hml hts hown hlocks htb hK hKX hZ hI ls hl
  have hown : s.vm.findClass RL = some m.cls := hown
  have hl : lv_has ls 4 [(0, .ref a), (1, .int x1), (2, .ref o)] := hl
  obtain ⟨hI, hO⟩ := hI
  have hS : va_S (fun q => A q ∨ q = o) s.heap s.heap [] := va_S.rf
  refine lv_aload_n hx hb dL_truthOf_0 rfl (lv_lk hl rfl) ?_
  refine iv_iconst hx hb dL_truthOf_1 ?_
  refine lv_aload_n hx hb dL_truthOf_2 rfl (lv_lk hl rfl) ?_
  refine lv_iload_n hx hb dL_truthOf_3 rfl (lv_lk hl rfl) ?_
  refine x_callC (own := RL) (name := xIO) (vx_runV ⟨hx, hb, hml, hown, hts⟩ hM (cwV 1 hts (gi_V ml_L_54 im_X5_truthOf sl_X5_truthOf it_X5 cd_X5_truthOf) rfl rfl rfl (by decide +kernel) ⟨Nat.le_of_ble_eq_true rfl, Nat.le_of_ble_eq_true rfl⟩) (by obtain ⟨fs, h9⟩ := ha _ hI; exact pX_V hK hKX (hZ.narrow (fun q h9 => Or.inl (hA1 q h9))) (h1 _ hI) h9 rfl) rfl rfl hl.1 rfl (lv_room (Nat.le_of_ble_eq_true rfl)) dL_truthOf_4 ⟨Nat.le_of_ble_eq_true rfl, Nat.le_of_ble_eq_true rfl⟩) (fun q h9 => Or.inl (hA1 q h9)) hS hown [] ⟨0, 9, 12, 13⟩ [] htb (fun z hz => nomatch hz) rfl (by decide) (hts _ cl_L_13) (hKX.word xc_IO) (fun q H locs k1 k2 hp1 hS => ?_)
  refine lv_astore_n (lv' := [(3, .ref q), (0, .ref a), (1, .int x1), (2, .ref o)]) hx hb dL_truthOf_12 rfl hl (by decide) rfl (fun ls hl => ?_)
  refine iv_iconst hx hb dL_truthOf_13 ?_
  obtain ⟨v0, hO⟩ := hO.kept (k2 o hO.lt (fun h9 => hoA (hA1 o h9)))
  exact W.iret hx hb hrt (fun t ht hW => ⟨rfl, by rw [ht]; exact hPo _ _ hI k1 k2 hp1, ⟨v0, by rw [ht]; exact hO, fun h9 => by exfalso; omega⟩, hS.F ht⟩) hS.2.2 dL_truthOf_14 hlocks
set_option maxHeartbeats 4000000 in
set_option maxRecDepth 100000 in
theorem w_rememberedOf_ok (l : Launch) (E : Env3) (a o : Nat) (x1 : Int32) (v : Int) (A : Nat → Prop) (Pin Po : Heap → Prop) (ha : ∀ H, Pin H → ∃ fs, va_at E.1 vwCl (a, .inr (5, fs)) H) (hoA : ¬ A o) (hin : onA A Po) (hM : Met l yX5_rememberedOf (Cond.code yX5_rememberedOf cX5_rememberedOf 2 (some .int) :: ALL) ({ frames := 7, cells := 0, slots := 0, locals := 102 }) (pP [.ref a, .int x1] E Pin) (qH (some (.int (I v))) A Po) 0 0 A) : Met l yL_rememberedOf (Cond.codeWith yL_rememberedOf cL_rememberedOf 4 (some .int) [(0, 9, 12, 13)] :: ALL) ({ frames := 10, cells := 1, slots := 6, locals := 300 }) (pX [.ref a, .int x1, .ref o] E (fun q => A q ∨ q = o) (fun H => Pin H ∧ outA E o H)) (qO E A o 0 (I v).toInt64 Po) 1 6 (fun q => A q ∨ q = o) := by
  refine mk_w (by decide) rfl (Nat.le_of_ble_eq_true rfl) ?_
  intro p e s m args below meth c hx hb hrt hml hts hown hlocks htb hK hKX hZ hI ls hl
  have hown : s.vm.findClass RL = some m.cls := hown
  have hl : lv_has ls 4 [(0, .ref a), (1, .int x1), (2, .ref o)] := hl
  obtain ⟨hI, hO⟩ := hI
  have hS : va_S (fun q => A q ∨ q = o) s.heap s.heap [] := va_S.rf
  refine lv_aload_n hx hb dL_rememberedOf_0 rfl (lv_lk hl rfl) ?_
  refine iv_iconst hx hb dL_rememberedOf_1 ?_
  refine lv_aload_n hx hb dL_rememberedOf_2 rfl (lv_lk hl rfl) ?_
  refine lv_iload_n hx hb dL_rememberedOf_3 rfl (lv_lk hl rfl) ?_
  refine call_P (va_runV ⟨hx, hb, hml, hown, hts⟩ hM (cwV 1 hts (gi_V ml_L_57 im_X5_rememberedOf sl_X5_rememberedOf it_X5 cd_X5_rememberedOf) rfl rfl rfl (by decide +kernel) ⟨Nat.le_of_ble_eq_true rfl, Nat.le_of_ble_eq_true rfl⟩) (pP_V hK hI (ha _ hI) rfl) rfl rfl hl.1 rfl (lv_room (Nat.le_of_ble_eq_true rfl)) dL_rememberedOf_4 ⟨Nat.le_of_ble_eq_true rfl, Nat.le_of_ble_eq_true rfl⟩) (fun q h9 => Or.inl h9) hS rfl (fun H locs k1 k2 hPo hS => ?_)
  obtain ⟨v0, hO⟩ := hO.kept (k2 o hO.lt hoA)
  refine lv_i2l hx hb dL_rememberedOf_7 rfl ?_
  refine x_last hx hb hK hO (Or.inr rfl) hS dL_rememberedOf_8 (fun H1 locs hO1 z1 oq hS => ?_)
  refine lv_goto (tgt := 15) hx hb dL_rememberedOf_9 (by decide) ?_
  refine iv_iconst hx hb dL_rememberedOf_15 ?_
  refine W.widen (k := 1) (n := 6) (Nat.le_of_ble_eq_true rfl) (Nat.le_of_ble_eq_true rfl) ?_
  exact W.iret hx hb hrt (fun t ht hW => ⟨rfl, by rw [ht]; exact hin _ _ hPo (by omega) (fun q _ hq => oq q (fun e9 => hoA (e9 ▸ hq))), ⟨_, by rw [ht]; exact hO1, fun _ => rfl⟩, hS.F ht⟩) hS.2.2 dL_rememberedOf_16 hlocks
set_option maxHeartbeats 4000000 in
set_option maxRecDepth 100000 in
theorem w_rememberedOf_x1 (l : Launch) (E : Env3) (a o : Nat) (x1 : Int32) (A1 : Nat → Prop) (Pin1 Po1 : Heap → Prop) (A : Nat → Prop) (Pin Po : Heap → Prop) (ha : ∀ H, Pin H → ∃ fs, va_at E.1 vwCl (a, .inr (5, fs)) H) (hoA : ¬ A o) (hA1 : ∀ q, A1 q → A q) (h1 : ∀ H, Pin H → Pin1 H) (hPo : ∀ H H1 : Heap, Pin H → H.size ≤ H1.size → (∀ q : Nat, q < H.size → ¬ A1 q → H1[q]? = H[q]?) → Po1 H1 → Po H1) (hM : vx_Met l yX5_rememberedOf (Cond.code yX5_rememberedOf cX5_rememberedOf 2 (some .int) :: ALL) ({ frames := 7, cells := 1, slots := 6, locals := 102 }) (pX [.ref a, .int x1] E A1 Pin1) qF (xT xIO A1 Po1) 1 6 A1) : Met l yL_rememberedOf (Cond.codeWith yL_rememberedOf cL_rememberedOf 4 (some .int) [(0, 9, 12, 13)] :: ALL) ({ frames := 10, cells := 1, slots := 6, locals := 300 }) (pX [.ref a, .int x1, .ref o] E (fun q => A q ∨ q = o) (fun H => Pin H ∧ outA E o H)) (qO E A o 1 0 Po) 1 6 (fun q => A q ∨ q = o) := by
  refine mk_w (by decide) rfl (Nat.le_of_ble_eq_true rfl) ?_
  intro p e s m args below meth c hx hb hrt hml hts hown hlocks htb hK hKX hZ hI ls hl
  have hown : s.vm.findClass RL = some m.cls := hown
  have hl : lv_has ls 4 [(0, .ref a), (1, .int x1), (2, .ref o)] := hl
  obtain ⟨hI, hO⟩ := hI
  have hS : va_S (fun q => A q ∨ q = o) s.heap s.heap [] := va_S.rf
  refine lv_aload_n hx hb dL_rememberedOf_0 rfl (lv_lk hl rfl) ?_
  refine iv_iconst hx hb dL_rememberedOf_1 ?_
  refine lv_aload_n hx hb dL_rememberedOf_2 rfl (lv_lk hl rfl) ?_
  refine lv_iload_n hx hb dL_rememberedOf_3 rfl (lv_lk hl rfl) ?_
  refine x_callC (own := RL) (name := xIO) (vx_runV ⟨hx, hb, hml, hown, hts⟩ hM (cwV 1 hts (gi_V ml_L_57 im_X5_rememberedOf sl_X5_rememberedOf it_X5 cd_X5_rememberedOf) rfl rfl rfl (by decide +kernel) ⟨Nat.le_of_ble_eq_true rfl, Nat.le_of_ble_eq_true rfl⟩) (by obtain ⟨fs, h9⟩ := ha _ hI; exact pX_V hK hKX (hZ.narrow (fun q h9 => Or.inl (hA1 q h9))) (h1 _ hI) h9 rfl) rfl rfl hl.1 rfl (lv_room (Nat.le_of_ble_eq_true rfl)) dL_rememberedOf_4 ⟨Nat.le_of_ble_eq_true rfl, Nat.le_of_ble_eq_true rfl⟩) (fun q h9 => Or.inl (hA1 q h9)) hS hown [] ⟨0, 9, 12, 13⟩ [] htb (fun z hz => nomatch hz) rfl (by decide) (hts _ cl_L_13) (hKX.word xc_IO) (fun q H locs k1 k2 hp1 hS => ?_)
  refine lv_astore_n (lv' := [(3, .ref q), (0, .ref a), (1, .int x1), (2, .ref o)]) hx hb dL_rememberedOf_12 rfl hl (by decide) rfl (fun ls hl => ?_)
  refine iv_iconst hx hb dL_rememberedOf_13 ?_
  obtain ⟨v0, hO⟩ := hO.kept (k2 o hO.lt (fun h9 => hoA (hA1 o h9)))
  exact W.iret hx hb hrt (fun t ht hW => ⟨rfl, by rw [ht]; exact hPo _ _ hI k1 k2 hp1, ⟨v0, by rw [ht]; exact hO, fun h9 => by exfalso; omega⟩, hS.F ht⟩) hS.2.2 dL_rememberedOf_14 hlocks
set_option maxHeartbeats 4000000 in
set_option maxRecDepth 100000 in
theorem w_ticksLeftOf_ok (l : Launch) (E : Env3) (a o : Nat) (x1 : Int32) (v : Int) (A : Nat → Prop) (Pin Po : Heap → Prop) (ha : ∀ H, Pin H → ∃ fs, va_at E.1 vwCl (a, .inr (5, fs)) H) (hoA : ¬ A o) (hin : onA A Po) (hM : Met l yX5_ticksLeftOf (Cond.code yX5_ticksLeftOf cX5_ticksLeftOf 2 (some .int) :: ALL) ({ frames := 7, cells := 0, slots := 0, locals := 102 }) (pP [.ref a, .int x1] E Pin) (qH (some (.int (I v))) A Po) 0 0 A) : Met l yL_ticksLeftOf (Cond.codeWith yL_ticksLeftOf cL_ticksLeftOf 4 (some .int) [(0, 9, 12, 13)] :: ALL) ({ frames := 10, cells := 1, slots := 6, locals := 300 }) (pX [.ref a, .int x1, .ref o] E (fun q => A q ∨ q = o) (fun H => Pin H ∧ outA E o H)) (qO E A o 0 (I v).toInt64 Po) 1 6 (fun q => A q ∨ q = o) := by
  refine mk_w (by decide) rfl (Nat.le_of_ble_eq_true rfl) ?_
  intro p e s m args below meth c hx hb hrt hml hts hown hlocks htb hK hKX hZ hI ls hl
  have hown : s.vm.findClass RL = some m.cls := hown
  have hl : lv_has ls 4 [(0, .ref a), (1, .int x1), (2, .ref o)] := hl
  obtain ⟨hI, hO⟩ := hI
  have hS : va_S (fun q => A q ∨ q = o) s.heap s.heap [] := va_S.rf
  refine lv_aload_n hx hb dL_ticksLeftOf_0 rfl (lv_lk hl rfl) ?_
  refine iv_iconst hx hb dL_ticksLeftOf_1 ?_
  refine lv_aload_n hx hb dL_ticksLeftOf_2 rfl (lv_lk hl rfl) ?_
  refine lv_iload_n hx hb dL_ticksLeftOf_3 rfl (lv_lk hl rfl) ?_
  refine call_P (va_runV ⟨hx, hb, hml, hown, hts⟩ hM (cwV 1 hts (gi_V ml_L_60 im_X5_ticksLeftOf sl_X5_ticksLeftOf it_X5 cd_X5_ticksLeftOf) rfl rfl rfl (by decide +kernel) ⟨Nat.le_of_ble_eq_true rfl, Nat.le_of_ble_eq_true rfl⟩) (pP_V hK hI (ha _ hI) rfl) rfl rfl hl.1 rfl (lv_room (Nat.le_of_ble_eq_true rfl)) dL_ticksLeftOf_4 ⟨Nat.le_of_ble_eq_true rfl, Nat.le_of_ble_eq_true rfl⟩) (fun q h9 => Or.inl h9) hS rfl (fun H locs k1 k2 hPo hS => ?_)
  obtain ⟨v0, hO⟩ := hO.kept (k2 o hO.lt hoA)
  refine lv_i2l hx hb dL_ticksLeftOf_7 rfl ?_
  refine x_last hx hb hK hO (Or.inr rfl) hS dL_ticksLeftOf_8 (fun H1 locs hO1 z1 oq hS => ?_)
  refine lv_goto (tgt := 15) hx hb dL_ticksLeftOf_9 (by decide) ?_
  refine iv_iconst hx hb dL_ticksLeftOf_15 ?_
  refine W.widen (k := 1) (n := 6) (Nat.le_of_ble_eq_true rfl) (Nat.le_of_ble_eq_true rfl) ?_
  exact W.iret hx hb hrt (fun t ht hW => ⟨rfl, by rw [ht]; exact hin _ _ hPo (by omega) (fun q _ hq => oq q (fun e9 => hoA (e9 ▸ hq))), ⟨_, by rw [ht]; exact hO1, fun _ => rfl⟩, hS.F ht⟩) hS.2.2 dL_ticksLeftOf_16 hlocks
set_option maxHeartbeats 4000000 in
set_option maxRecDepth 100000 in
theorem w_ticksLeftOf_x1 (l : Launch) (E : Env3) (a o : Nat) (x1 : Int32) (A1 : Nat → Prop) (Pin1 Po1 : Heap → Prop) (A : Nat → Prop) (Pin Po : Heap → Prop) (ha : ∀ H, Pin H → ∃ fs, va_at E.1 vwCl (a, .inr (5, fs)) H) (hoA : ¬ A o) (hA1 : ∀ q, A1 q → A q) (h1 : ∀ H, Pin H → Pin1 H) (hPo : ∀ H H1 : Heap, Pin H → H.size ≤ H1.size → (∀ q : Nat, q < H.size → ¬ A1 q → H1[q]? = H[q]?) → Po1 H1 → Po H1) (hM : vx_Met l yX5_ticksLeftOf (Cond.code yX5_ticksLeftOf cX5_ticksLeftOf 2 (some .int) :: ALL) ({ frames := 7, cells := 1, slots := 6, locals := 102 }) (pX [.ref a, .int x1] E A1 Pin1) qF (xT xIO A1 Po1) 1 6 A1) : Met l yL_ticksLeftOf (Cond.codeWith yL_ticksLeftOf cL_ticksLeftOf 4 (some .int) [(0, 9, 12, 13)] :: ALL) ({ frames := 10, cells := 1, slots := 6, locals := 300 }) (pX [.ref a, .int x1, .ref o] E (fun q => A q ∨ q = o) (fun H => Pin H ∧ outA E o H)) (qO E A o 1 0 Po) 1 6 (fun q => A q ∨ q = o) := by
  refine mk_w (by decide) rfl (Nat.le_of_ble_eq_true rfl) ?_
  intro p e s m args below meth c hx hb hrt hml hts hown hlocks htb hK hKX hZ hI ls hl
  have hown : s.vm.findClass RL = some m.cls := hown
  have hl : lv_has ls 4 [(0, .ref a), (1, .int x1), (2, .ref o)] := hl
  obtain ⟨hI, hO⟩ := hI
  have hS : va_S (fun q => A q ∨ q = o) s.heap s.heap [] := va_S.rf
  refine lv_aload_n hx hb dL_ticksLeftOf_0 rfl (lv_lk hl rfl) ?_
  refine iv_iconst hx hb dL_ticksLeftOf_1 ?_
  refine lv_aload_n hx hb dL_ticksLeftOf_2 rfl (lv_lk hl rfl) ?_
  refine lv_iload_n hx hb dL_ticksLeftOf_3 rfl (lv_lk hl rfl) ?_
  refine x_callC (own := RL) (name := xIO) (vx_runV ⟨hx, hb, hml, hown, hts⟩ hM (cwV 1 hts (gi_V ml_L_60 im_X5_ticksLeftOf sl_X5_ticksLeftOf it_X5 cd_X5_ticksLeftOf) rfl rfl rfl (by decide +kernel) ⟨Nat.le_of_ble_eq_true rfl, Nat.le_of_ble_eq_true rfl⟩) (by obtain ⟨fs, h9⟩ := ha _ hI; exact pX_V hK hKX (hZ.narrow (fun q h9 => Or.inl (hA1 q h9))) (h1 _ hI) h9 rfl) rfl rfl hl.1 rfl (lv_room (Nat.le_of_ble_eq_true rfl)) dL_ticksLeftOf_4 ⟨Nat.le_of_ble_eq_true rfl, Nat.le_of_ble_eq_true rfl⟩) (fun q h9 => Or.inl (hA1 q h9)) hS hown [] ⟨0, 9, 12, 13⟩ [] htb (fun z hz => nomatch hz) rfl (by decide) (hts _ cl_L_13) (hKX.word xc_IO) (fun q H locs k1 k2 hp1 hS => ?_)
  refine lv_astore_n (lv' := [(3, .ref q), (0, .ref a), (1, .int x1), (2, .ref o)]) hx hb dL_ticksLeftOf_12 rfl hl (by decide) rfl (fun ls hl => ?_)
  refine iv_iconst hx hb dL_ticksLeftOf_13 ?_
  obtain ⟨v0, hO⟩ := hO.kept (k2 o hO.lt (fun h9 => hoA (hA1 o h9)))
  exact W.iret hx hb hrt (fun t ht hW => ⟨rfl, by rw [ht]; exact hPo _ _ hI k1 k2 hp1, ⟨v0, by rw [ht]; exact hO, fun h9 => by exfalso; omega⟩, hS.F ht⟩) hS.2.2 dL_ticksLeftOf_14 hlocks
set_option maxHeartbeats 4000000 in
set_option maxRecDepth 100000 in
theorem w_referralLeft_ok (l : Launch) (E : Env3) (a o : Nat) (x1 : Int32) (v : Int) (A : Nat → Prop) (Pin Po : Heap → Prop) (ha : ∀ H, Pin H → ∃ fs, va_at E.1 vwCl (a, .inr (5, fs)) H) (hoA : ¬ A o) (hin : onA A Po) (hM : Met l yX5_referralLeft (Cond.code yX5_referralLeft cX5_referralLeft 2 (some .int) :: ALL) ({ frames := 7, cells := 0, slots := 0, locals := 102 }) (pP [.ref a, .int x1] E Pin) (qH (some (.int (I v))) A Po) 0 0 A) : Met l yL_referralLeft (Cond.codeWith yL_referralLeft cL_referralLeft 4 (some .int) [(0, 9, 12, 13)] :: ALL) ({ frames := 10, cells := 1, slots := 6, locals := 300 }) (pX [.ref a, .int x1, .ref o] E (fun q => A q ∨ q = o) (fun H => Pin H ∧ outA E o H)) (qO E A o 0 (I v).toInt64 Po) 1 6 (fun q => A q ∨ q = o) := by
  refine mk_w (by decide) rfl (Nat.le_of_ble_eq_true rfl) ?_
  intro p e s m args below meth c hx hb hrt hml hts hown hlocks htb hK hKX hZ hI ls hl
  have hown : s.vm.findClass RL = some m.cls := hown
  have hl : lv_has ls 4 [(0, .ref a), (1, .int x1), (2, .ref o)] := hl
  obtain ⟨hI, hO⟩ := hI
  have hS : va_S (fun q => A q ∨ q = o) s.heap s.heap [] := va_S.rf
  refine lv_aload_n hx hb dL_referralLeft_0 rfl (lv_lk hl rfl) ?_
  refine iv_iconst hx hb dL_referralLeft_1 ?_
  refine lv_aload_n hx hb dL_referralLeft_2 rfl (lv_lk hl rfl) ?_
  refine lv_iload_n hx hb dL_referralLeft_3 rfl (lv_lk hl rfl) ?_
  refine call_P (va_runV ⟨hx, hb, hml, hown, hts⟩ hM (cwV 1 hts (gi_V ml_L_63 im_X5_referralLeft sl_X5_referralLeft it_X5 cd_X5_referralLeft) rfl rfl rfl (by decide +kernel) ⟨Nat.le_of_ble_eq_true rfl, Nat.le_of_ble_eq_true rfl⟩) (pP_V hK hI (ha _ hI) rfl) rfl rfl hl.1 rfl (lv_room (Nat.le_of_ble_eq_true rfl)) dL_referralLeft_4 ⟨Nat.le_of_ble_eq_true rfl, Nat.le_of_ble_eq_true rfl⟩) (fun q h9 => Or.inl h9) hS rfl (fun H locs k1 k2 hPo hS => ?_)
  obtain ⟨v0, hO⟩ := hO.kept (k2 o hO.lt hoA)
  refine lv_i2l hx hb dL_referralLeft_7 rfl ?_
  refine x_last hx hb hK hO (Or.inr rfl) hS dL_referralLeft_8 (fun H1 locs hO1 z1 oq hS => ?_)
  refine lv_goto (tgt := 15) hx hb dL_referralLeft_9 (by decide) ?_
  refine iv_iconst hx hb dL_referralLeft_15 ?_
  refine W.widen (k := 1) (n := 6) (Nat.le_of_ble_eq_true rfl) (Nat.le_of_ble_eq_true rfl) ?_
  exact W.iret hx hb hrt (fun t ht hW => ⟨rfl, by rw [ht]; exact hin _ _ hPo (by omega) (fun q _ hq => oq q (fun e9 => hoA (e9 ▸ hq))), ⟨_, by rw [ht]; exact hO1, fun _ => rfl⟩, hS.F ht⟩) hS.2.2 dL_referralLeft_16 hlocks
set_option maxHeartbeats 4000000 in
set_option maxRecDepth 100000 in
theorem w_referralLeft_x1 (l : Launch) (E : Env3) (a o : Nat) (x1 : Int32) (A1 : Nat → Prop) (Pin1 Po1 : Heap → Prop) (A : Nat → Prop) (Pin Po : Heap → Prop) (ha : ∀ H, Pin H → ∃ fs, va_at E.1 vwCl (a, .inr (5, fs)) H) (hoA : ¬ A o) (hA1 : ∀ q, A1 q → A q) (h1 : ∀ H, Pin H → Pin1 H) (hPo : ∀ H H1 : Heap, Pin H → H.size ≤ H1.size → (∀ q : Nat, q < H.size → ¬ A1 q → H1[q]? = H[q]?) → Po1 H1 → Po H1) (hM : vx_Met l yX5_referralLeft (Cond.code yX5_referralLeft cX5_referralLeft 2 (some .int) :: ALL) ({ frames := 7, cells := 1, slots := 6, locals := 102 }) (pX [.ref a, .int x1] E A1 Pin1) qF (xT xIO A1 Po1) 1 6 A1) : Met l yL_referralLeft (Cond.codeWith yL_referralLeft cL_referralLeft 4 (some .int) [(0, 9, 12, 13)] :: ALL) ({ frames := 10, cells := 1, slots := 6, locals := 300 }) (pX [.ref a, .int x1, .ref o] E (fun q => A q ∨ q = o) (fun H => Pin H ∧ outA E o H)) (qO E A o 1 0 Po) 1 6 (fun q => A q ∨ q = o) := by
  refine mk_w (by decide) rfl (Nat.le_of_ble_eq_true rfl) ?_
  intro p e s m args below meth c hx hb hrt hml hts hown hlocks htb hK hKX hZ hI ls hl
  have hown : s.vm.findClass RL = some m.cls := hown
  have hl : lv_has ls 4 [(0, .ref a), (1, .int x1), (2, .ref o)] := hl
  obtain ⟨hI, hO⟩ := hI
  have hS : va_S (fun q => A q ∨ q = o) s.heap s.heap [] := va_S.rf
  refine lv_aload_n hx hb dL_referralLeft_0 rfl (lv_lk hl rfl) ?_
  refine iv_iconst hx hb dL_referralLeft_1 ?_
  refine lv_aload_n hx hb dL_referralLeft_2 rfl (lv_lk hl rfl) ?_
  refine lv_iload_n hx hb dL_referralLeft_3 rfl (lv_lk hl rfl) ?_
  refine x_callC (own := RL) (name := xIO) (vx_runV ⟨hx, hb, hml, hown, hts⟩ hM (cwV 1 hts (gi_V ml_L_63 im_X5_referralLeft sl_X5_referralLeft it_X5 cd_X5_referralLeft) rfl rfl rfl (by decide +kernel) ⟨Nat.le_of_ble_eq_true rfl, Nat.le_of_ble_eq_true rfl⟩) (by obtain ⟨fs, h9⟩ := ha _ hI; exact pX_V hK hKX (hZ.narrow (fun q h9 => Or.inl (hA1 q h9))) (h1 _ hI) h9 rfl) rfl rfl hl.1 rfl (lv_room (Nat.le_of_ble_eq_true rfl)) dL_referralLeft_4 ⟨Nat.le_of_ble_eq_true rfl, Nat.le_of_ble_eq_true rfl⟩) (fun q h9 => Or.inl (hA1 q h9)) hS hown [] ⟨0, 9, 12, 13⟩ [] htb (fun z hz => nomatch hz) rfl (by decide) (hts _ cl_L_13) (hKX.word xc_IO) (fun q H locs k1 k2 hp1 hS => ?_)
  refine lv_astore_n (lv' := [(3, .ref q), (0, .ref a), (1, .int x1), (2, .ref o)]) hx hb dL_referralLeft_12 rfl hl (by decide) rfl (fun ls hl => ?_)
  refine iv_iconst hx hb dL_referralLeft_13 ?_
  obtain ⟨v0, hO⟩ := hO.kept (k2 o hO.lt (fun h9 => hoA (hA1 o h9)))
  exact W.iret hx hb hrt (fun t ht hW => ⟨rfl, by rw [ht]; exact hPo _ _ hI k1 k2 hp1, ⟨v0, by rw [ht]; exact hO, fun h9 => by exfalso; omega⟩, hS.F ht⟩) hS.2.2 dL_referralLeft_14 hlocks
set_option maxHeartbeats 4000000 in
set_option maxRecDepth 100000 in
theorem w_isOutOfDate_ok (l : Launch) (E : Env3) (a o : Nat) (x1 : Int32) (v : Int) (A : Nat → Prop) (Pin Po : Heap → Prop) (ha : ∀ H, Pin H → ∃ fs, va_at E.1 vwCl (a, .inr (5, fs)) H) (hoA : ¬ A o) (hv : v = 0 ∨ v = 1) (hin : onA A Po) (hM : Met l yX5_isOutOfDate (Cond.code yX5_isOutOfDate cX5_isOutOfDate 2 (some .boolean) :: ALL) ({ frames := 7, cells := 0, slots := 0, locals := 102 }) (pP [.ref a, .int x1] E Pin) (qH (some (.int (I v))) A Po) 0 0 A) : Met l yL_isOutOfDate (Cond.codeWith yL_isOutOfDate cL_isOutOfDate 4 (some .int) [(0, 16, 19, 13)] :: ALL) ({ frames := 10, cells := 1, slots := 6, locals := 300 }) (pX [.ref a, .int x1, .ref o] E (fun q => A q ∨ q = o) (fun H => Pin H ∧ outA E o H)) (qO E A o 0 (I v).toInt64 Po) 1 6 (fun q => A q ∨ q = o) := by
  refine mk_w (by decide) rfl (Nat.le_of_ble_eq_true rfl) ?_
  intro p e s m args below meth c hx hb hrt hml hts hown hlocks htb hK hKX hZ hI ls hl
  have hown : s.vm.findClass RL = some m.cls := hown
  have hl : lv_has ls 4 [(0, .ref a), (1, .int x1), (2, .ref o)] := hl
  obtain ⟨hI, hO⟩ := hI
  have hS : va_S (fun q => A q ∨ q = o) s.heap s.heap [] := va_S.rf
  refine lv_aload_n hx hb dL_isOutOfDate_0 rfl (lv_lk hl rfl) ?_
  refine iv_iconst hx hb dL_isOutOfDate_1 ?_
  refine lv_aload_n hx hb dL_isOutOfDate_2 rfl (lv_lk hl rfl) ?_
  refine lv_iload_n hx hb dL_isOutOfDate_3 rfl (lv_lk hl rfl) ?_
  refine call_P (va_runV ⟨hx, hb, hml, hown, hts⟩ hM (cwV 1 hts (gi_V ml_L_66 im_X5_isOutOfDate sl_X5_isOutOfDate it_X5 cd_X5_isOutOfDate) rfl rfl rfl (by decide +kernel) ⟨Nat.le_of_ble_eq_true rfl, Nat.le_of_ble_eq_true rfl⟩) (pP_V hK hI (ha _ hI) rfl) rfl rfl hl.1 rfl (lv_room (Nat.le_of_ble_eq_true rfl)) dL_isOutOfDate_4 ⟨Nat.le_of_ble_eq_true rfl, Nat.le_of_ble_eq_true rfl⟩) (fun q h9 => Or.inl h9) hS rfl (fun H locs k1 k2 hPo hS => ?_)
  obtain ⟨v0, hO⟩ := hO.kept (k2 o hO.lt hoA)
  rcases hv with rfl | rfl
  · refine iv_if_eq (tgt := 14) hx hb dL_isOutOfDate_7 (by decide) (by omega) (fun c_7 => ?_) (fun c_7 => by exfalso; omega)
    refine lv_lconst (v := (I 0).toInt64) hx hb dL_isOutOfDate_14 rfl ?_
    refine x_last hx hb hK hO (Or.inr rfl) hS dL_isOutOfDate_15 (fun H1 locs hO1 z1 oq hS => ?_)
    refine lv_goto (tgt := 22) hx hb dL_isOutOfDate_16 (by decide) ?_
    refine iv_iconst hx hb dL_isOutOfDate_22 ?_
    refine W.widen (k := 1) (n := 6) (Nat.le_of_ble_eq_true rfl) (Nat.le_of_ble_eq_true rfl) ?_
    exact W.iret hx hb hrt (fun t ht hW => ⟨rfl, by rw [ht]; exact hin _ _ hPo (by omega) (fun q _ hq => oq q (fun e9 => hoA (e9 ▸ hq))), ⟨_, by rw [ht]; exact hO1, fun _ => rfl⟩, hS.F ht⟩) hS.2.2 dL_isOutOfDate_23 hlocks
  · refine iv_if_eq (tgt := 14) hx hb dL_isOutOfDate_7 (by decide) (by omega) (fun c_7 => by exfalso; omega) (fun c_7 => ?_)
    refine lv_lconst (v := (I 1).toInt64) hx hb dL_isOutOfDate_10 rfl ?_
    refine lv_goto (tgt := 15) hx hb dL_isOutOfDate_11 (by decide) ?_
    refine x_last hx hb hK hO (Or.inr rfl) hS dL_isOutOfDate_15 (fun H1 locs hO1 z1 oq hS => ?_)
    refine lv_goto (tgt := 22) hx hb dL_isOutOfDate_16 (by decide) ?_
    refine iv_iconst hx hb dL_isOutOfDate_22 ?_
    refine W.widen (k := 1) (n := 6) (Nat.le_of_ble_eq_true rfl) (Nat.le_of_ble_eq_true rfl) ?_
    exact W.iret hx hb hrt (fun t ht hW => ⟨rfl, by rw [ht]; exact hin _ _ hPo (by omega) (fun q _ hq => oq q (fun e9 => hoA (e9 ▸ hq))), ⟨_, by rw [ht]; exact hO1, fun _ => rfl⟩, hS.F ht⟩) hS.2.2 dL_isOutOfDate_23 hlocks
set_option maxHeartbeats 4000000 in
set_option maxRecDepth 100000 in
theorem w_isOutOfDate_x1 (l : Launch) (E : Env3) (a o : Nat) (x1 : Int32) (A1 : Nat → Prop) (Pin1 Po1 : Heap → Prop) (A : Nat → Prop) (Pin Po : Heap → Prop) (ha : ∀ H, Pin H → ∃ fs, va_at E.1 vwCl (a, .inr (5, fs)) H) (hoA : ¬ A o) (hA1 : ∀ q, A1 q → A q) (h1 : ∀ H, Pin H → Pin1 H) (hPo : ∀ H H1 : Heap, Pin H → H.size ≤ H1.size → (∀ q : Nat, q < H.size → ¬ A1 q → H1[q]? = H[q]?) → Po1 H1 → Po H1) (hM : vx_Met l yX5_isOutOfDate (Cond.code yX5_isOutOfDate cX5_isOutOfDate 2 (some .boolean) :: ALL) ({ frames := 7, cells := 1, slots := 6, locals := 102 }) (pX [.ref a, .int x1] E A1 Pin1) qF (xT xIO A1 Po1) 1 6 A1) : Met l yL_isOutOfDate (Cond.codeWith yL_isOutOfDate cL_isOutOfDate 4 (some .int) [(0, 16, 19, 13)] :: ALL) ({ frames := 10, cells := 1, slots := 6, locals := 300 }) (pX [.ref a, .int x1, .ref o] E (fun q => A q ∨ q = o) (fun H => Pin H ∧ outA E o H)) (qO E A o 1 0 Po) 1 6 (fun q => A q ∨ q = o) := by
  refine mk_w (by decide) rfl (Nat.le_of_ble_eq_true rfl) ?_
  intro p e s m args below meth c hx hb hrt hml hts hown hlocks htb hK hKX hZ hI ls hl
  have hown : s.vm.findClass RL = some m.cls := hown
  have hl : lv_has ls 4 [(0, .ref a), (1, .int x1), (2, .ref o)] := hl
  obtain ⟨hI, hO⟩ := hI
  have hS : va_S (fun q => A q ∨ q = o) s.heap s.heap [] := va_S.rf
  refine lv_aload_n hx hb dL_isOutOfDate_0 rfl (lv_lk hl rfl) ?_
  refine iv_iconst hx hb dL_isOutOfDate_1 ?_
  refine lv_aload_n hx hb dL_isOutOfDate_2 rfl (lv_lk hl rfl) ?_
  refine lv_iload_n hx hb dL_isOutOfDate_3 rfl (lv_lk hl rfl) ?_
  refine x_callC (own := RL) (name := xIO) (vx_runV ⟨hx, hb, hml, hown, hts⟩ hM (cwV 1 hts (gi_V ml_L_66 im_X5_isOutOfDate sl_X5_isOutOfDate it_X5 cd_X5_isOutOfDate) rfl rfl rfl (by decide +kernel) ⟨Nat.le_of_ble_eq_true rfl, Nat.le_of_ble_eq_true rfl⟩) (by obtain ⟨fs, h9⟩ := ha _ hI; exact pX_V hK hKX (hZ.narrow (fun q h9 => Or.inl (hA1 q h9))) (h1 _ hI) h9 rfl) rfl rfl hl.1 rfl (lv_room (Nat.le_of_ble_eq_true rfl)) dL_isOutOfDate_4 ⟨Nat.le_of_ble_eq_true rfl, Nat.le_of_ble_eq_true rfl⟩) (fun q h9 => Or.inl (hA1 q h9)) hS hown [] ⟨0, 16, 19, 13⟩ [] htb (fun z hz => nomatch hz) rfl (by decide) (hts _ cl_L_13) (hKX.word xc_IO) (fun q H locs k1 k2 hp1 hS => ?_)
  refine lv_astore_n (lv' := [(3, .ref q), (0, .ref a), (1, .int x1), (2, .ref o)]) hx hb dL_isOutOfDate_19 rfl hl (by decide) rfl (fun ls hl => ?_)
  refine iv_iconst hx hb dL_isOutOfDate_20 ?_
  obtain ⟨v0, hO⟩ := hO.kept (k2 o hO.lt (fun h9 => hoA (hA1 o h9)))
  exact W.iret hx hb hrt (fun t ht hW => ⟨rfl, by rw [ht]; exact hPo _ _ hI k1 k2 hp1, ⟨v0, by rw [ht]; exact hO, fun h9 => by exfalso; omega⟩, hS.F ht⟩) hS.2.2 dL_isOutOfDate_21 hlocks
set_option maxHeartbeats 4000000 in
set_option maxRecDepth 100000 in
theorem w_questionsTo_ok (l : Launch) (E : Env3) (a o : Nat) (x1 : Int32) (v : Int) (A : Nat → Prop) (Pin Po : Heap → Prop) (ha : ∀ H, Pin H → ∃ fs, va_at E.1 vwCl (a, .inr (5, fs)) H) (hoA : ¬ A o) (hin : onA A Po) (hM : Met l yX5_questionsTo (Cond.code yX5_questionsTo cX5_questionsTo 2 (some .int) :: ALL) ({ frames := 7, cells := 0, slots := 0, locals := 102 }) (pP [.ref a, .int x1] E Pin) (qH (some (.int (I v))) A Po) 0 0 A) : Met l yL_questionsTo (Cond.codeWith yL_questionsTo cL_questionsTo 4 (some .int) [(0, 9, 12, 13)] :: ALL) ({ frames := 10, cells := 1, slots := 6, locals := 300 }) (pX [.ref a, .int x1, .ref o] E (fun q => A q ∨ q = o) (fun H => Pin H ∧ outA E o H)) (qO E A o 0 (I v).toInt64 Po) 1 6 (fun q => A q ∨ q = o) := by
  refine mk_w (by decide) rfl (Nat.le_of_ble_eq_true rfl) ?_
  intro p e s m args below meth c hx hb hrt hml hts hown hlocks htb hK hKX hZ hI ls hl
  have hown : s.vm.findClass RL = some m.cls := hown
  have hl : lv_has ls 4 [(0, .ref a), (1, .int x1), (2, .ref o)] := hl
  obtain ⟨hI, hO⟩ := hI
  have hS : va_S (fun q => A q ∨ q = o) s.heap s.heap [] := va_S.rf
  refine lv_aload_n hx hb dL_questionsTo_0 rfl (lv_lk hl rfl) ?_
  refine iv_iconst hx hb dL_questionsTo_1 ?_
  refine lv_aload_n hx hb dL_questionsTo_2 rfl (lv_lk hl rfl) ?_
  refine lv_iload_n hx hb dL_questionsTo_3 rfl (lv_lk hl rfl) ?_
  refine call_P (va_runV ⟨hx, hb, hml, hown, hts⟩ hM (cwV 1 hts (gi_V ml_L_70 im_X5_questionsTo sl_X5_questionsTo it_X5 cd_X5_questionsTo) rfl rfl rfl (by decide +kernel) ⟨Nat.le_of_ble_eq_true rfl, Nat.le_of_ble_eq_true rfl⟩) (pP_V hK hI (ha _ hI) rfl) rfl rfl hl.1 rfl (lv_room (Nat.le_of_ble_eq_true rfl)) dL_questionsTo_4 ⟨Nat.le_of_ble_eq_true rfl, Nat.le_of_ble_eq_true rfl⟩) (fun q h9 => Or.inl h9) hS rfl (fun H locs k1 k2 hPo hS => ?_)
  obtain ⟨v0, hO⟩ := hO.kept (k2 o hO.lt hoA)
  refine lv_i2l hx hb dL_questionsTo_7 rfl ?_
  refine x_last hx hb hK hO (Or.inr rfl) hS dL_questionsTo_8 (fun H1 locs hO1 z1 oq hS => ?_)
  refine lv_goto (tgt := 15) hx hb dL_questionsTo_9 (by decide) ?_
  refine iv_iconst hx hb dL_questionsTo_15 ?_
  refine W.widen (k := 1) (n := 6) (Nat.le_of_ble_eq_true rfl) (Nat.le_of_ble_eq_true rfl) ?_
  exact W.iret hx hb hrt (fun t ht hW => ⟨rfl, by rw [ht]; exact hin _ _ hPo (by omega) (fun q _ hq => oq q (fun e9 => hoA (e9 ▸ hq))), ⟨_, by rw [ht]; exact hO1, fun _ => rfl⟩, hS.F ht⟩) hS.2.2 dL_questionsTo_16 hlocks
set_option maxHeartbeats 4000000 in
set_option maxRecDepth 100000 in
theorem w_questionsTo_x1 (l : Launch) (E : Env3) (a o : Nat) (x1 : Int32) (A1 : Nat → Prop) (Pin1 Po1 : Heap → Prop) (A : Nat → Prop) (Pin Po : Heap → Prop) (ha : ∀ H, Pin H → ∃ fs, va_at E.1 vwCl (a, .inr (5, fs)) H) (hoA : ¬ A o) (hA1 : ∀ q, A1 q → A q) (h1 : ∀ H, Pin H → Pin1 H) (hPo : ∀ H H1 : Heap, Pin H → H.size ≤ H1.size → (∀ q : Nat, q < H.size → ¬ A1 q → H1[q]? = H[q]?) → Po1 H1 → Po H1) (hM : vx_Met l yX5_questionsTo (Cond.code yX5_questionsTo cX5_questionsTo 2 (some .int) :: ALL) ({ frames := 7, cells := 1, slots := 6, locals := 102 }) (pX [.ref a, .int x1] E A1 Pin1) qF (xT xIO A1 Po1) 1 6 A1) : Met l yL_questionsTo (Cond.codeWith yL_questionsTo cL_questionsTo 4 (some .int) [(0, 9, 12, 13)] :: ALL) ({ frames := 10, cells := 1, slots := 6, locals := 300 }) (pX [.ref a, .int x1, .ref o] E (fun q => A q ∨ q = o) (fun H => Pin H ∧ outA E o H)) (qO E A o 1 0 Po) 1 6 (fun q => A q ∨ q = o) := by
  refine mk_w (by decide) rfl (Nat.le_of_ble_eq_true rfl) ?_
  intro p e s m args below meth c hx hb hrt hml hts hown hlocks htb hK hKX hZ hI ls hl
  have hown : s.vm.findClass RL = some m.cls := hown
  have hl : lv_has ls 4 [(0, .ref a), (1, .int x1), (2, .ref o)] := hl
  obtain ⟨hI, hO⟩ := hI
  have hS : va_S (fun q => A q ∨ q = o) s.heap s.heap [] := va_S.rf
  refine lv_aload_n hx hb dL_questionsTo_0 rfl (lv_lk hl rfl) ?_
  refine iv_iconst hx hb dL_questionsTo_1 ?_
  refine lv_aload_n hx hb dL_questionsTo_2 rfl (lv_lk hl rfl) ?_
  refine lv_iload_n hx hb dL_questionsTo_3 rfl (lv_lk hl rfl) ?_
  refine x_callC (own := RL) (name := xIO) (vx_runV ⟨hx, hb, hml, hown, hts⟩ hM (cwV 1 hts (gi_V ml_L_70 im_X5_questionsTo sl_X5_questionsTo it_X5 cd_X5_questionsTo) rfl rfl rfl (by decide +kernel) ⟨Nat.le_of_ble_eq_true rfl, Nat.le_of_ble_eq_true rfl⟩) (by obtain ⟨fs, h9⟩ := ha _ hI; exact pX_V hK hKX (hZ.narrow (fun q h9 => Or.inl (hA1 q h9))) (h1 _ hI) h9 rfl) rfl rfl hl.1 rfl (lv_room (Nat.le_of_ble_eq_true rfl)) dL_questionsTo_4 ⟨Nat.le_of_ble_eq_true rfl, Nat.le_of_ble_eq_true rfl⟩) (fun q h9 => Or.inl (hA1 q h9)) hS hown [] ⟨0, 9, 12, 13⟩ [] htb (fun z hz => nomatch hz) rfl (by decide) (hts _ cl_L_13) (hKX.word xc_IO) (fun q H locs k1 k2 hp1 hS => ?_)
  refine lv_astore_n (lv' := [(3, .ref q), (0, .ref a), (1, .int x1), (2, .ref o)]) hx hb dL_questionsTo_12 rfl hl (by decide) rfl (fun ls hl => ?_)
  refine iv_iconst hx hb dL_questionsTo_13 ?_
  obtain ⟨v0, hO⟩ := hO.kept (k2 o hO.lt (fun h9 => hoA (hA1 o h9)))
  exact W.iret hx hb hrt (fun t ht hW => ⟨rfl, by rw [ht]; exact hPo _ _ hI k1 k2 hp1, ⟨v0, by rw [ht]; exact hO, fun h9 => by exfalso; omega⟩, hS.F ht⟩) hS.2.2 dL_questionsTo_14 hlocks
set_option maxHeartbeats 4000000 in
set_option maxRecDepth 100000 in
theorem w_wouldSolve_ok (l : Launch) (E : Env3) (a o : Nat) (x1 : Int32) (v : Int) (A : Nat → Prop) (Pin Po : Heap → Prop) (ha : ∀ H, Pin H → ∃ fs, va_at E.1 vwCl (a, .inr (5, fs)) H) (hoA : ¬ A o) (hin : onA A Po) (hM : Met l yX5_wouldSolve (Cond.code yX5_wouldSolve cX5_wouldSolve 2 (some .int) :: ALL) ({ frames := 7, cells := 0, slots := 0, locals := 102 }) (pP [.ref a, .int x1] E Pin) (qH (some (.int (I v))) A Po) 0 0 A) : Met l yL_wouldSolve (Cond.codeWith yL_wouldSolve cL_wouldSolve 4 (some .int) [(0, 9, 12, 13)] :: ALL) ({ frames := 10, cells := 1, slots := 6, locals := 300 }) (pX [.ref a, .int x1, .ref o] E (fun q => A q ∨ q = o) (fun H => Pin H ∧ outA E o H)) (qO E A o 0 (I v).toInt64 Po) 1 6 (fun q => A q ∨ q = o) := by
  refine mk_w (by decide) rfl (Nat.le_of_ble_eq_true rfl) ?_
  intro p e s m args below meth c hx hb hrt hml hts hown hlocks htb hK hKX hZ hI ls hl
  have hown : s.vm.findClass RL = some m.cls := hown
  have hl : lv_has ls 4 [(0, .ref a), (1, .int x1), (2, .ref o)] := hl
  obtain ⟨hI, hO⟩ := hI
  have hS : va_S (fun q => A q ∨ q = o) s.heap s.heap [] := va_S.rf
  refine lv_aload_n hx hb dL_wouldSolve_0 rfl (lv_lk hl rfl) ?_
  refine iv_iconst hx hb dL_wouldSolve_1 ?_
  refine lv_aload_n hx hb dL_wouldSolve_2 rfl (lv_lk hl rfl) ?_
  refine lv_iload_n hx hb dL_wouldSolve_3 rfl (lv_lk hl rfl) ?_
  refine call_P (va_runV ⟨hx, hb, hml, hown, hts⟩ hM (cwV 1 hts (gi_V ml_L_73 im_X5_wouldSolve sl_X5_wouldSolve it_X5 cd_X5_wouldSolve) rfl rfl rfl (by decide +kernel) ⟨Nat.le_of_ble_eq_true rfl, Nat.le_of_ble_eq_true rfl⟩) (pP_V hK hI (ha _ hI) rfl) rfl rfl hl.1 rfl (lv_room (Nat.le_of_ble_eq_true rfl)) dL_wouldSolve_4 ⟨Nat.le_of_ble_eq_true rfl, Nat.le_of_ble_eq_true rfl⟩) (fun q h9 => Or.inl h9) hS rfl (fun H locs k1 k2 hPo hS => ?_)
  obtain ⟨v0, hO⟩ := hO.kept (k2 o hO.lt hoA)
  refine lv_i2l hx hb dL_wouldSolve_7 rfl ?_
  refine x_last hx hb hK hO (Or.inr rfl) hS dL_wouldSolve_8 (fun H1 locs hO1 z1 oq hS => ?_)
  refine lv_goto (tgt := 15) hx hb dL_wouldSolve_9 (by decide) ?_
  refine iv_iconst hx hb dL_wouldSolve_15 ?_
  refine W.widen (k := 1) (n := 6) (Nat.le_of_ble_eq_true rfl) (Nat.le_of_ble_eq_true rfl) ?_
  exact W.iret hx hb hrt (fun t ht hW => ⟨rfl, by rw [ht]; exact hin _ _ hPo (by omega) (fun q _ hq => oq q (fun e9 => hoA (e9 ▸ hq))), ⟨_, by rw [ht]; exact hO1, fun _ => rfl⟩, hS.F ht⟩) hS.2.2 dL_wouldSolve_16 hlocks
set_option maxHeartbeats 4000000 in
set_option maxRecDepth 100000 in
theorem w_wouldSolve_x1 (l : Launch) (E : Env3) (a o : Nat) (x1 : Int32) (A1 : Nat → Prop) (Pin1 Po1 : Heap → Prop) (A : Nat → Prop) (Pin Po : Heap → Prop) (ha : ∀ H, Pin H → ∃ fs, va_at E.1 vwCl (a, .inr (5, fs)) H) (hoA : ¬ A o) (hA1 : ∀ q, A1 q → A q) (h1 : ∀ H, Pin H → Pin1 H) (hPo : ∀ H H1 : Heap, Pin H → H.size ≤ H1.size → (∀ q : Nat, q < H.size → ¬ A1 q → H1[q]? = H[q]?) → Po1 H1 → Po H1) (hM : vx_Met l yX5_wouldSolve (Cond.code yX5_wouldSolve cX5_wouldSolve 2 (some .int) :: ALL) ({ frames := 7, cells := 1, slots := 6, locals := 102 }) (pX [.ref a, .int x1] E A1 Pin1) qF (xT xIO A1 Po1) 1 6 A1) : Met l yL_wouldSolve (Cond.codeWith yL_wouldSolve cL_wouldSolve 4 (some .int) [(0, 9, 12, 13)] :: ALL) ({ frames := 10, cells := 1, slots := 6, locals := 300 }) (pX [.ref a, .int x1, .ref o] E (fun q => A q ∨ q = o) (fun H => Pin H ∧ outA E o H)) (qO E A o 1 0 Po) 1 6 (fun q => A q ∨ q = o) := by
  refine mk_w (by decide) rfl (Nat.le_of_ble_eq_true rfl) ?_
  intro p e s m args below meth c hx hb hrt hml hts hown hlocks htb hK hKX hZ hI ls hl
  have hown : s.vm.findClass RL = some m.cls := hown
  have hl : lv_has ls 4 [(0, .ref a), (1, .int x1), (2, .ref o)] := hl
  obtain ⟨hI, hO⟩ := hI
  have hS : va_S (fun q => A q ∨ q = o) s.heap s.heap [] := va_S.rf
  refine lv_aload_n hx hb dL_wouldSolve_0 rfl (lv_lk hl rfl) ?_
  refine iv_iconst hx hb dL_wouldSolve_1 ?_
  refine lv_aload_n hx hb dL_wouldSolve_2 rfl (lv_lk hl rfl) ?_
  refine lv_iload_n hx hb dL_wouldSolve_3 rfl (lv_lk hl rfl) ?_
  refine x_callC (own := RL) (name := xIO) (vx_runV ⟨hx, hb, hml, hown, hts⟩ hM (cwV 1 hts (gi_V ml_L_73 im_X5_wouldSolve sl_X5_wouldSolve it_X5 cd_X5_wouldSolve) rfl rfl rfl (by decide +kernel) ⟨Nat.le_of_ble_eq_true rfl, Nat.le_of_ble_eq_true rfl⟩) (by obtain ⟨fs, h9⟩ := ha _ hI; exact pX_V hK hKX (hZ.narrow (fun q h9 => Or.inl (hA1 q h9))) (h1 _ hI) h9 rfl) rfl rfl hl.1 rfl (lv_room (Nat.le_of_ble_eq_true rfl)) dL_wouldSolve_4 ⟨Nat.le_of_ble_eq_true rfl, Nat.le_of_ble_eq_true rfl⟩) (fun q h9 => Or.inl (hA1 q h9)) hS hown [] ⟨0, 9, 12, 13⟩ [] htb (fun z hz => nomatch hz) rfl (by decide) (hts _ cl_L_13) (hKX.word xc_IO) (fun q H locs k1 k2 hp1 hS => ?_)
  refine lv_astore_n (lv' := [(3, .ref q), (0, .ref a), (1, .int x1), (2, .ref o)]) hx hb dL_wouldSolve_12 rfl hl (by decide) rfl (fun ls hl => ?_)
  refine iv_iconst hx hb dL_wouldSolve_13 ?_
  obtain ⟨v0, hO⟩ := hO.kept (k2 o hO.lt (fun h9 => hoA (hA1 o h9)))
  exact W.iret hx hb hrt (fun t ht hW => ⟨rfl, by rw [ht]; exact hPo _ _ hI k1 k2 hp1, ⟨v0, by rw [ht]; exact hO, fun h9 => by exfalso; omega⟩, hS.F ht⟩) hS.2.2 dL_wouldSolve_14 hlocks
set_option maxHeartbeats 4000000 in
set_option maxRecDepth 100000 in
theorem w_costOf_ok (l : Launch) (E : Env3) (a o : Nat) (x1 : Int32) (v : Int) (A : Nat → Prop) (Pin Po : Heap → Prop) (ha : ∀ H, Pin H → ∃ fs, va_at E.1 vwCl (a, .inr (5, fs)) H) (hoA : ¬ A o) (hin : onA A Po) (hM : Met l yX5_costOf (Cond.code yX5_costOf cX5_costOf 2 (some .int) :: ALL) ({ frames := 7, cells := 0, slots := 0, locals := 102 }) (pP [.ref a, .int x1] E Pin) (qH (some (.int (I v))) A Po) 0 0 A) : Met l yL_costOf (Cond.codeWith yL_costOf cL_costOf 4 (some .int) [(0, 9, 12, 13)] :: ALL) ({ frames := 10, cells := 1, slots := 6, locals := 300 }) (pX [.ref a, .int x1, .ref o] E (fun q => A q ∨ q = o) (fun H => Pin H ∧ outA E o H)) (qO E A o 0 (I v).toInt64 Po) 1 6 (fun q => A q ∨ q = o) := by
  refine mk_w (by decide) rfl (Nat.le_of_ble_eq_true rfl) ?_
  intro p e s m args below meth c hx hb hrt hml hts hown hlocks htb hK hKX hZ hI ls hl
  have hown : s.vm.findClass RL = some m.cls := hown
  have hl : lv_has ls 4 [(0, .ref a), (1, .int x1), (2, .ref o)] := hl
  obtain ⟨hI, hO⟩ := hI
  have hS : va_S (fun q => A q ∨ q = o) s.heap s.heap [] := va_S.rf
  refine lv_aload_n hx hb dL_costOf_0 rfl (lv_lk hl rfl) ?_
  refine iv_iconst hx hb dL_costOf_1 ?_
  refine lv_aload_n hx hb dL_costOf_2 rfl (lv_lk hl rfl) ?_
  refine lv_iload_n hx hb dL_costOf_3 rfl (lv_lk hl rfl) ?_
  refine call_P (va_runV ⟨hx, hb, hml, hown, hts⟩ hM (cwV 1 hts (gi_V ml_L_76 im_X5_costOf sl_X5_costOf it_X5 cd_X5_costOf) rfl rfl rfl (by decide +kernel) ⟨Nat.le_of_ble_eq_true rfl, Nat.le_of_ble_eq_true rfl⟩) (pP_V hK hI (ha _ hI) rfl) rfl rfl hl.1 rfl (lv_room (Nat.le_of_ble_eq_true rfl)) dL_costOf_4 ⟨Nat.le_of_ble_eq_true rfl, Nat.le_of_ble_eq_true rfl⟩) (fun q h9 => Or.inl h9) hS rfl (fun H locs k1 k2 hPo hS => ?_)
  obtain ⟨v0, hO⟩ := hO.kept (k2 o hO.lt hoA)
  refine lv_i2l hx hb dL_costOf_7 rfl ?_
  refine x_last hx hb hK hO (Or.inr rfl) hS dL_costOf_8 (fun H1 locs hO1 z1 oq hS => ?_)
  refine lv_goto (tgt := 15) hx hb dL_costOf_9 (by decide) ?_
  refine iv_iconst hx hb dL_costOf_15 ?_
  refine W.widen (k := 1) (n := 6) (Nat.le_of_ble_eq_true rfl) (Nat.le_of_ble_eq_true rfl) ?_
  exact W.iret hx hb hrt (fun t ht hW => ⟨rfl, by rw [ht]; exact hin _ _ hPo (by omega) (fun q _ hq => oq q (fun e9 => hoA (e9 ▸ hq))), ⟨_, by rw [ht]; exact hO1, fun _ => rfl⟩, hS.F ht⟩) hS.2.2 dL_costOf_16 hlocks
set_option maxHeartbeats 4000000 in
set_option maxRecDepth 100000 in
theorem w_costOf_x1 (l : Launch) (E : Env3) (a o : Nat) (x1 : Int32) (A1 : Nat → Prop) (Pin1 Po1 : Heap → Prop) (A : Nat → Prop) (Pin Po : Heap → Prop) (ha : ∀ H, Pin H → ∃ fs, va_at E.1 vwCl (a, .inr (5, fs)) H) (hoA : ¬ A o) (hA1 : ∀ q, A1 q → A q) (h1 : ∀ H, Pin H → Pin1 H) (hPo : ∀ H H1 : Heap, Pin H → H.size ≤ H1.size → (∀ q : Nat, q < H.size → ¬ A1 q → H1[q]? = H[q]?) → Po1 H1 → Po H1) (hM : vx_Met l yX5_costOf (Cond.code yX5_costOf cX5_costOf 2 (some .int) :: ALL) ({ frames := 7, cells := 1, slots := 6, locals := 102 }) (pX [.ref a, .int x1] E A1 Pin1) qF (xT xIO A1 Po1) 1 6 A1) : Met l yL_costOf (Cond.codeWith yL_costOf cL_costOf 4 (some .int) [(0, 9, 12, 13)] :: ALL) ({ frames := 10, cells := 1, slots := 6, locals := 300 }) (pX [.ref a, .int x1, .ref o] E (fun q => A q ∨ q = o) (fun H => Pin H ∧ outA E o H)) (qO E A o 1 0 Po) 1 6 (fun q => A q ∨ q = o) := by
  refine mk_w (by decide) rfl (Nat.le_of_ble_eq_true rfl) ?_
  intro p e s m args below meth c hx hb hrt hml hts hown hlocks htb hK hKX hZ hI ls hl
  have hown : s.vm.findClass RL = some m.cls := hown
  have hl : lv_has ls 4 [(0, .ref a), (1, .int x1), (2, .ref o)] := hl
  obtain ⟨hI, hO⟩ := hI
  have hS : va_S (fun q => A q ∨ q = o) s.heap s.heap [] := va_S.rf
  refine lv_aload_n hx hb dL_costOf_0 rfl (lv_lk hl rfl) ?_
  refine iv_iconst hx hb dL_costOf_1 ?_
  refine lv_aload_n hx hb dL_costOf_2 rfl (lv_lk hl rfl) ?_
  refine lv_iload_n hx hb dL_costOf_3 rfl (lv_lk hl rfl) ?_
  refine x_callC (own := RL) (name := xIO) (vx_runV ⟨hx, hb, hml, hown, hts⟩ hM (cwV 1 hts (gi_V ml_L_76 im_X5_costOf sl_X5_costOf it_X5 cd_X5_costOf) rfl rfl rfl (by decide +kernel) ⟨Nat.le_of_ble_eq_true rfl, Nat.le_of_ble_eq_true rfl⟩) (by obtain ⟨fs, h9⟩ := ha _ hI; exact pX_V hK hKX (hZ.narrow (fun q h9 => Or.inl (hA1 q h9))) (h1 _ hI) h9 rfl) rfl rfl hl.1 rfl (lv_room (Nat.le_of_ble_eq_true rfl)) dL_costOf_4 ⟨Nat.le_of_ble_eq_true rfl, Nat.le_of_ble_eq_true rfl⟩) (fun q h9 => Or.inl (hA1 q h9)) hS hown [] ⟨0, 9, 12, 13⟩ [] htb (fun z hz => nomatch hz) rfl (by decide) (hts _ cl_L_13) (hKX.word xc_IO) (fun q H locs k1 k2 hp1 hS => ?_)
  refine lv_astore_n (lv' := [(3, .ref q), (0, .ref a), (1, .int x1), (2, .ref o)]) hx hb dL_costOf_12 rfl hl (by decide) rfl (fun ls hl => ?_)
  refine iv_iconst hx hb dL_costOf_13 ?_
  obtain ⟨v0, hO⟩ := hO.kept (k2 o hO.lt (fun h9 => hoA (hA1 o h9)))
  exact W.iret hx hb hrt (fun t ht hW => ⟨rfl, by rw [ht]; exact hPo _ _ hI k1 k2 hp1, ⟨v0, by rw [ht]; exact hO, fun h9 => by exfalso; omega⟩, hS.F ht⟩) hS.2.2 dL_costOf_14 hlocks
set_option maxHeartbeats 4000000 in
set_option maxRecDepth 100000 in
theorem w_ticksUntilTruth_ok (l : Launch) (E : Env3) (a o : Nat) (x1 : Int32) (v : Int) (A : Nat → Prop) (Pin Po : Heap → Prop) (ha : ∀ H, Pin H → ∃ fs, va_at E.1 vwCl (a, .inr (5, fs)) H) (hoA : ¬ A o) (hin : onA A Po) (hM : Met l yX5_ticksUntilTruth (Cond.code yX5_ticksUntilTruth cX5_ticksUntilTruth 2 (some .int) :: ALL) ({ frames := 7, cells := 0, slots := 0, locals := 111 }) (pP [.ref a, .int x1] E Pin) (qH (some (.int (I v))) A Po) 0 0 A) : Met l yL_ticksUntilTruth (Cond.codeWith yL_ticksUntilTruth cL_ticksUntilTruth 4 (some .int) [(0, 9, 12, 13)] :: ALL) ({ frames := 10, cells := 1, slots := 6, locals := 300 }) (pX [.ref a, .int x1, .ref o] E (fun q => A q ∨ q = o) (fun H => Pin H ∧ outA E o H)) (qO E A o 0 (I v).toInt64 Po) 1 6 (fun q => A q ∨ q = o) := by
  refine mk_w (by decide) rfl (Nat.le_of_ble_eq_true rfl) ?_
  intro p e s m args below meth c hx hb hrt hml hts hown hlocks htb hK hKX hZ hI ls hl
  have hown : s.vm.findClass RL = some m.cls := hown
  have hl : lv_has ls 4 [(0, .ref a), (1, .int x1), (2, .ref o)] := hl
  obtain ⟨hI, hO⟩ := hI
  have hS : va_S (fun q => A q ∨ q = o) s.heap s.heap [] := va_S.rf
  refine lv_aload_n hx hb dL_ticksUntilTruth_0 rfl (lv_lk hl rfl) ?_
  refine iv_iconst hx hb dL_ticksUntilTruth_1 ?_
  refine lv_aload_n hx hb dL_ticksUntilTruth_2 rfl (lv_lk hl rfl) ?_
  refine lv_iload_n hx hb dL_ticksUntilTruth_3 rfl (lv_lk hl rfl) ?_
  refine call_P (va_runV ⟨hx, hb, hml, hown, hts⟩ hM (cwV 1 hts (gi_V ml_L_79 im_X5_ticksUntilTruth sl_X5_ticksUntilTruth it_X5 cd_X5_ticksUntilTruth) rfl rfl rfl (by decide +kernel) ⟨Nat.le_of_ble_eq_true rfl, Nat.le_of_ble_eq_true rfl⟩) (pP_V hK hI (ha _ hI) rfl) rfl rfl hl.1 rfl (lv_room (Nat.le_of_ble_eq_true rfl)) dL_ticksUntilTruth_4 ⟨Nat.le_of_ble_eq_true rfl, Nat.le_of_ble_eq_true rfl⟩) (fun q h9 => Or.inl h9) hS rfl (fun H locs k1 k2 hPo hS => ?_)
  obtain ⟨v0, hO⟩ := hO.kept (k2 o hO.lt hoA)
  refine lv_i2l hx hb dL_ticksUntilTruth_7 rfl ?_
  refine x_last hx hb hK hO (Or.inr rfl) hS dL_ticksUntilTruth_8 (fun H1 locs hO1 z1 oq hS => ?_)
  refine lv_goto (tgt := 15) hx hb dL_ticksUntilTruth_9 (by decide) ?_
  refine iv_iconst hx hb dL_ticksUntilTruth_15 ?_
  refine W.widen (k := 1) (n := 6) (Nat.le_of_ble_eq_true rfl) (Nat.le_of_ble_eq_true rfl) ?_
  exact W.iret hx hb hrt (fun t ht hW => ⟨rfl, by rw [ht]; exact hin _ _ hPo (by omega) (fun q _ hq => oq q (fun e9 => hoA (e9 ▸ hq))), ⟨_, by rw [ht]; exact hO1, fun _ => rfl⟩, hS.F ht⟩) hS.2.2 dL_ticksUntilTruth_16 hlocks
set_option maxHeartbeats 4000000 in
set_option maxRecDepth 100000 in
theorem w_ticksUntilTruth_x1 (l : Launch) (E : Env3) (a o : Nat) (x1 : Int32) (A1 : Nat → Prop) (Pin1 Po1 : Heap → Prop) (A : Nat → Prop) (Pin Po : Heap → Prop) (ha : ∀ H, Pin H → ∃ fs, va_at E.1 vwCl (a, .inr (5, fs)) H) (hoA : ¬ A o) (hA1 : ∀ q, A1 q → A q) (h1 : ∀ H, Pin H → Pin1 H) (hPo : ∀ H H1 : Heap, Pin H → H.size ≤ H1.size → (∀ q : Nat, q < H.size → ¬ A1 q → H1[q]? = H[q]?) → Po1 H1 → Po H1) (hM : vx_Met l yX5_ticksUntilTruth (Cond.code yX5_ticksUntilTruth cX5_ticksUntilTruth 2 (some .int) :: ALL) ({ frames := 7, cells := 1, slots := 6, locals := 111 }) (pX [.ref a, .int x1] E A1 Pin1) qF (xT xIO A1 Po1) 1 6 A1) : Met l yL_ticksUntilTruth (Cond.codeWith yL_ticksUntilTruth cL_ticksUntilTruth 4 (some .int) [(0, 9, 12, 13)] :: ALL) ({ frames := 10, cells := 1, slots := 6, locals := 300 }) (pX [.ref a, .int x1, .ref o] E (fun q => A q ∨ q = o) (fun H => Pin H ∧ outA E o H)) (qO E A o 1 0 Po) 1 6 (fun q => A q ∨ q = o) := by
  refine mk_w (by decide) rfl (Nat.le_of_ble_eq_true rfl) ?_
  intro p e s m args below meth c hx hb hrt hml hts hown hlocks htb hK hKX hZ hI ls hl
  have hown : s.vm.findClass RL = some m.cls := hown
  have hl : lv_has ls 4 [(0, .ref a), (1, .int x1), (2, .ref o)] := hl
  obtain ⟨hI, hO⟩ := hI
  have hS : va_S (fun q => A q ∨ q = o) s.heap s.heap [] := va_S.rf
  refine lv_aload_n hx hb dL_ticksUntilTruth_0 rfl (lv_lk hl rfl) ?_
  refine iv_iconst hx hb dL_ticksUntilTruth_1 ?_
  refine lv_aload_n hx hb dL_ticksUntilTruth_2 rfl (lv_lk hl rfl) ?_
  refine lv_iload_n hx hb dL_ticksUntilTruth_3 rfl (lv_lk hl rfl) ?_
  refine x_callC (own := RL) (name := xIO) (vx_runV ⟨hx, hb, hml, hown, hts⟩ hM (cwV 1 hts (gi_V ml_L_79 im_X5_ticksUntilTruth sl_X5_ticksUntilTruth it_X5 cd_X5_ticksUntilTruth) rfl rfl rfl (by decide +kernel) ⟨Nat.le_of_ble_eq_true rfl, Nat.le_of_ble_eq_true rfl⟩) (by obtain ⟨fs, h9⟩ := ha _ hI; exact pX_V hK hKX (hZ.narrow (fun q h9 => Or.inl (hA1 q h9))) (h1 _ hI) h9 rfl) rfl rfl hl.1 rfl (lv_room (Nat.le_of_ble_eq_true rfl)) dL_ticksUntilTruth_4 ⟨Nat.le_of_ble_eq_true rfl, Nat.le_of_ble_eq_true rfl⟩) (fun q h9 => Or.inl (hA1 q h9)) hS hown [] ⟨0, 9, 12, 13⟩ [] htb (fun z hz => nomatch hz) rfl (by decide) (hts _ cl_L_13) (hKX.word xc_IO) (fun q H locs k1 k2 hp1 hS => ?_)
  refine lv_astore_n (lv' := [(3, .ref q), (0, .ref a), (1, .int x1), (2, .ref o)]) hx hb dL_ticksUntilTruth_12 rfl hl (by decide) rfl (fun ls hl => ?_)
  refine iv_iconst hx hb dL_ticksUntilTruth_13 ?_
  obtain ⟨v0, hO⟩ := hO.kept (k2 o hO.lt (fun h9 => hoA (hA1 o h9)))
  exact W.iret hx hb hrt (fun t ht hW => ⟨rfl, by rw [ht]; exact hPo _ _ hI k1 k2 hp1, ⟨v0, by rw [ht]; exact hO, fun h9 => by exfalso; omega⟩, hS.F ht⟩) hS.2.2 dL_ticksUntilTruth_14 hlocks
set_option maxHeartbeats 4000000 in
set_option maxRecDepth 100000 in
theorem w_append_ok (l : Launch) (E : Env3) (a o : Nat) (x1 : Int32) (v : Int) (A : Nat → Prop) (Pin Po : Heap → Prop) (ha : ∀ H, Pin H → ∃ fs, va_at E.1 vwCl (a, .inr (5, fs)) H) (hoA : ¬ A o) (hin : onA A Po) (hM : Met l yX5_append (Cond.code yX5_append cX5_append 2 (some .int) :: ALL) ({ frames := 7, cells := 0, slots := 0, locals := 104 }) (pP [.ref a, .int x1] E Pin) (qH (some (.int (I v))) A Po) 0 0 A) : Met l yL_append (Cond.codeWith yL_append cL_append 4 (some .int) [(0, 9, 12, 15), (0, 9, 15, 31)] :: ALL) ({ frames := 10, cells := 1, slots := 6, locals := 300 }) (pX [.ref a, .int x1, .ref o] E (fun q => A q ∨ q = o) (fun H => Pin H ∧ outA E o H)) (qO E A o 0 (I v).toInt64 Po) 1 6 (fun q => A q ∨ q = o) := by
  refine mk_w (by decide) rfl (Nat.le_of_ble_eq_true rfl) ?_
  intro p e s m args below meth c hx hb hrt hml hts hown hlocks htb hK hKX hZ hI ls hl
  have hown : s.vm.findClass RL = some m.cls := hown
  have hl : lv_has ls 4 [(0, .ref a), (1, .int x1), (2, .ref o)] := hl
  obtain ⟨hI, hO⟩ := hI
  have hS : va_S (fun q => A q ∨ q = o) s.heap s.heap [] := va_S.rf
  refine lv_aload_n hx hb dL_append_0 rfl (lv_lk hl rfl) ?_
  refine iv_iconst hx hb dL_append_1 ?_
  refine lv_aload_n hx hb dL_append_2 rfl (lv_lk hl rfl) ?_
  refine lv_iload_n hx hb dL_append_3 rfl (lv_lk hl rfl) ?_
  refine call_P (va_runV ⟨hx, hb, hml, hown, hts⟩ hM (cwV 1 hts (gi_V ml_L_82 im_X5_append sl_X5_append it_X5 cd_X5_append) rfl rfl rfl (by decide +kernel) ⟨Nat.le_of_ble_eq_true rfl, Nat.le_of_ble_eq_true rfl⟩) (pP_V hK hI (ha _ hI) rfl) rfl rfl hl.1 rfl (lv_room (Nat.le_of_ble_eq_true rfl)) dL_append_4 ⟨Nat.le_of_ble_eq_true rfl, Nat.le_of_ble_eq_true rfl⟩) (fun q h9 => Or.inl h9) hS rfl (fun H locs k1 k2 hPo hS => ?_)
  obtain ⟨v0, hO⟩ := hO.kept (k2 o hO.lt hoA)
  refine lv_i2l hx hb dL_append_7 rfl ?_
  refine x_last hx hb hK hO (Or.inr rfl) hS dL_append_8 (fun H1 locs hO1 z1 oq hS => ?_)
  refine lv_goto (tgt := 18) hx hb dL_append_9 (by decide) ?_
  refine iv_iconst hx hb dL_append_18 ?_
  refine W.widen (k := 1) (n := 6) (Nat.le_of_ble_eq_true rfl) (Nat.le_of_ble_eq_true rfl) ?_
  exact W.iret hx hb hrt (fun t ht hW => ⟨rfl, by rw [ht]; exact hin _ _ hPo (by omega) (fun q _ hq => oq q (fun e9 => hoA (e9 ▸ hq))), ⟨_, by rw [ht]; exact hO1, fun _ => rfl⟩, hS.F ht⟩) hS.2.2 dL_append_19 hlocks
set_option maxHeartbeats 4000000 in
set_option maxRecDepth 100000 in
theorem w_append_x1 (l : Launch) (E : Env3) (a o : Nat) (x1 : Int32) (A1 : Nat → Prop) (Pin1 Po1 : Heap → Prop) (A : Nat → Prop) (Pin Po : Heap → Prop) (ha : ∀ H, Pin H → ∃ fs, va_at E.1 vwCl (a, .inr (5, fs)) H) (hoA : ¬ A o) (hA1 : ∀ q, A1 q → A q) (h1 : ∀ H, Pin H → Pin1 H) (hPo : ∀ H H1 : Heap, Pin H → H.size ≤ H1.size → (∀ q : Nat, q < H.size → ¬ A1 q → H1[q]? = H[q]?) → Po1 H1 → Po H1) (hM : vx_Met l yX5_append (Cond.code yX5_append cX5_append 2 (some .int) :: ALL) ({ frames := 7, cells := 1, slots := 6, locals := 104 }) (pX [.ref a, .int x1] E A1 Pin1) qF (xT xIA A1 Po1) 1 6 A1) : Met l yL_append (Cond.codeWith yL_append cL_append 4 (some .int) [(0, 9, 12, 15), (0, 9, 15, 31)] :: ALL) ({ frames := 10, cells := 1, slots := 6, locals := 300 }) (pX [.ref a, .int x1, .ref o] E (fun q => A q ∨ q = o) (fun H => Pin H ∧ outA E o H)) (qO E A o 1 0 Po) 1 6 (fun q => A q ∨ q = o) := by
  refine mk_w (by decide) rfl (Nat.le_of_ble_eq_true rfl) ?_
  intro p e s m args below meth c hx hb hrt hml hts hown hlocks htb hK hKX hZ hI ls hl
  have hown : s.vm.findClass RL = some m.cls := hown
  have hl : lv_has ls 4 [(0, .ref a), (1, .int x1), (2, .ref o)] := hl
  obtain ⟨hI, hO⟩ := hI
  have hS : va_S (fun q => A q ∨ q = o) s.heap s.heap [] := va_S.rf
  refine lv_aload_n hx hb dL_append_0 rfl (lv_lk hl rfl) ?_
  refine iv_iconst hx hb dL_append_1 ?_
  refine lv_aload_n hx hb dL_append_2 rfl (lv_lk hl rfl) ?_
  refine lv_iload_n hx hb dL_append_3 rfl (lv_lk hl rfl) ?_
  refine x_callC (own := RL) (name := xIA) (vx_runV ⟨hx, hb, hml, hown, hts⟩ hM (cwV 1 hts (gi_V ml_L_82 im_X5_append sl_X5_append it_X5 cd_X5_append) rfl rfl rfl (by decide +kernel) ⟨Nat.le_of_ble_eq_true rfl, Nat.le_of_ble_eq_true rfl⟩) (by obtain ⟨fs, h9⟩ := ha _ hI; exact pX_V hK hKX (hZ.narrow (fun q h9 => Or.inl (hA1 q h9))) (h1 _ hI) h9 rfl) rfl rfl hl.1 rfl (lv_room (Nat.le_of_ble_eq_true rfl)) dL_append_4 ⟨Nat.le_of_ble_eq_true rfl, Nat.le_of_ble_eq_true rfl⟩) (fun q h9 => Or.inl (hA1 q h9)) hS hown [] ⟨0, 9, 12, 15⟩ [⟨0, 9, 15, 31⟩] htb (fun z hz => nomatch hz) rfl (by decide) (hts _ cl_L_15) (hKX.word xc_IA) (fun q H locs k1 k2 hp1 hS => ?_)
  refine lv_astore_n (lv' := [(3, .ref q), (0, .ref a), (1, .int x1), (2, .ref o)]) hx hb dL_append_12 rfl hl (by decide) rfl (fun ls hl => ?_)
  refine iv_iconst hx hb dL_append_13 ?_
  obtain ⟨v0, hO⟩ := hO.kept (k2 o hO.lt (fun h9 => hoA (hA1 o h9)))
  exact W.iret hx hb hrt (fun t ht hW => ⟨rfl, by rw [ht]; exact hPo _ _ hI k1 k2 hp1, ⟨v0, by rw [ht]; exact hO, fun h9 => by exfalso; omega⟩, hS.F ht⟩) hS.2.2 dL_append_14 hlocks
set_option maxHeartbeats 4000000 in
set_option maxRecDepth 100000 in
theorem w_append_x2 (l : Launch) (E : Env3) (a o : Nat) (x1 : Int32) (A1 : Nat → Prop) (Pin1 Po1 : Heap → Prop) (A : Nat → Prop) (Pin Po : Heap → Prop) (ha : ∀ H, Pin H → ∃ fs, va_at E.1 vwCl (a, .inr (5, fs)) H) (hoA : ¬ A o) (hA1 : ∀ q, A1 q → A q) (h1 : ∀ H, Pin H → Pin1 H) (hPo : ∀ H H1 : Heap, Pin H → H.size ≤ H1.size → (∀ q : Nat, q < H.size → ¬ A1 q → H1[q]? = H[q]?) → Po1 H1 → Po H1) (hM : vx_Met l yX5_append (Cond.code yX5_append cX5_append 2 (some .int) :: ALL) ({ frames := 7, cells := 1, slots := 6, locals := 104 }) (pX [.ref a, .int x1] E A1 Pin1) qF (xT xIS A1 Po1) 1 6 A1) : Met l yL_append (Cond.codeWith yL_append cL_append 4 (some .int) [(0, 9, 12, 15), (0, 9, 15, 31)] :: ALL) ({ frames := 10, cells := 1, slots := 6, locals := 300 }) (pX [.ref a, .int x1, .ref o] E (fun q => A q ∨ q = o) (fun H => Pin H ∧ outA E o H)) (qO E A o 2 0 Po) 1 6 (fun q => A q ∨ q = o) := by
  refine mk_w (by decide) rfl (Nat.le_of_ble_eq_true rfl) ?_
  intro p e s m args below meth c hx hb hrt hml hts hown hlocks htb hK hKX hZ hI ls hl
  have hown : s.vm.findClass RL = some m.cls := hown
  have hl : lv_has ls 4 [(0, .ref a), (1, .int x1), (2, .ref o)] := hl
  obtain ⟨hI, hO⟩ := hI
  have hS : va_S (fun q => A q ∨ q = o) s.heap s.heap [] := va_S.rf
  refine lv_aload_n hx hb dL_append_0 rfl (lv_lk hl rfl) ?_
  refine iv_iconst hx hb dL_append_1 ?_
  refine lv_aload_n hx hb dL_append_2 rfl (lv_lk hl rfl) ?_
  refine lv_iload_n hx hb dL_append_3 rfl (lv_lk hl rfl) ?_
  refine x_callC (own := RL) (name := xIS) (vx_runV ⟨hx, hb, hml, hown, hts⟩ hM (cwV 1 hts (gi_V ml_L_82 im_X5_append sl_X5_append it_X5 cd_X5_append) rfl rfl rfl (by decide +kernel) ⟨Nat.le_of_ble_eq_true rfl, Nat.le_of_ble_eq_true rfl⟩) (by obtain ⟨fs, h9⟩ := ha _ hI; exact pX_V hK hKX (hZ.narrow (fun q h9 => Or.inl (hA1 q h9))) (h1 _ hI) h9 rfl) rfl rfl hl.1 rfl (lv_room (Nat.le_of_ble_eq_true rfl)) dL_append_4 ⟨Nat.le_of_ble_eq_true rfl, Nat.le_of_ble_eq_true rfl⟩) (fun q h9 => Or.inl (hA1 q h9)) hS hown [⟨0, 9, 12, 15⟩] ⟨0, 9, 15, 31⟩ [] htb (fun z hz => by cases List.mem_singleton.mp hz; exact Or.inr ⟨by decide, xIA, hts _ cl_L_15, hKX.2.2 (xIS, xIA) (List.mem_of_getElem? (i := 2) rfl)⟩) rfl (by decide) (hts _ cl_L_31) (hKX.word xc_IS) (fun q H locs k1 k2 hp1 hS => ?_)
  refine lv_astore_n (lv' := [(3, .ref q), (0, .ref a), (1, .int x1), (2, .ref o)]) hx hb dL_append_15 rfl hl (by decide) rfl (fun ls hl => ?_)
  refine iv_iconst hx hb dL_append_16 ?_
  obtain ⟨v0, hO⟩ := hO.kept (k2 o hO.lt (fun h9 => hoA (hA1 o h9)))
  exact W.iret hx hb hrt (fun t ht hW => ⟨rfl, by rw [ht]; exact hPo _ _ hI k1 k2 hp1, ⟨v0, by rw [ht]; exact hO, fun h9 => by exfalso; omega⟩, hS.F ht⟩) hS.2.2 dL_append_17 hlocks
set_option maxHeartbeats 4000000 in
set_option maxRecDepth 100000 in
theorem w_runActs_ok (l : Launch) (E : Env3) (a o : Nat) (v : Int) (A : Nat → Prop) (Pin Po : Heap → Prop) (ha : ∀ H, Pin H → ∃ fs, va_at E.1 vwCl (a, .inr (5, fs)) H) (hoA : ¬ A o) (hin : onA A Po) (hM : Met l yX5_runActs (Cond.code yX5_runActs cX5_runActs 2 (some .int) :: ALL) ({ frames := 6, cells := 0, slots := 0, locals := 148 }) (pP [.ref a] E Pin) (qH (some (.int (I v))) A Po) 0 0 A) : Met l yL_runActs (Cond.codeWith yL_runActs cL_runActs 3 (some .int) [(0, 8, 11, 31)] :: ALL) ({ frames := 10, cells := 1, slots := 6, locals := 300 }) (pX [.ref a, .ref o] E (fun q => A q ∨ q = o) (fun H => Pin H ∧ outA E o H)) (qO E A o 0 (I v).toInt64 Po) 1 6 (fun q => A q ∨ q = o) := by
  refine mk_w (by decide) rfl (Nat.le_of_ble_eq_true rfl) ?_
  intro p e s m args below meth c hx hb hrt hml hts hown hlocks htb hK hKX hZ hI ls hl
  have hown : s.vm.findClass RL = some m.cls := hown
  have hl : lv_has ls 3 [(0, .ref a), (1, .ref o)] := hl
  obtain ⟨hI, hO⟩ := hI
  have hS : va_S (fun q => A q ∨ q = o) s.heap s.heap [] := va_S.rf
  refine lv_aload_n hx hb dL_runActs_0 rfl (lv_lk hl rfl) ?_
  refine iv_iconst hx hb dL_runActs_1 ?_
  refine lv_aload_n hx hb dL_runActs_2 rfl (lv_lk hl rfl) ?_
  refine call_P (va_runV ⟨hx, hb, hml, hown, hts⟩ hM (cwV 0 hts (gi_V ml_L_85 im_X5_runActs sl_X5_runActs it_X5 cd_X5_runActs) rfl rfl rfl (by decide +kernel) ⟨Nat.le_of_ble_eq_true rfl, Nat.le_of_ble_eq_true rfl⟩) (pP_V hK hI (ha _ hI) rfl) rfl rfl hl.1 rfl (lv_room (Nat.le_of_ble_eq_true rfl)) dL_runActs_3 ⟨Nat.le_of_ble_eq_true rfl, Nat.le_of_ble_eq_true rfl⟩) (fun q h9 => Or.inl h9) hS rfl (fun H locs k1 k2 hPo hS => ?_)
  obtain ⟨v0, hO⟩ := hO.kept (k2 o hO.lt hoA)
  refine lv_i2l hx hb dL_runActs_6 rfl ?_
  refine x_last hx hb hK hO (Or.inr rfl) hS dL_runActs_7 (fun H1 locs hO1 z1 oq hS => ?_)
  refine lv_goto (tgt := 14) hx hb dL_runActs_8 (by decide) ?_
  refine iv_iconst hx hb dL_runActs_14 ?_
  refine W.widen (k := 1) (n := 6) (Nat.le_of_ble_eq_true rfl) (Nat.le_of_ble_eq_true rfl) ?_
  exact W.iret hx hb hrt (fun t ht hW => ⟨rfl, by rw [ht]; exact hin _ _ hPo (by omega) (fun q _ hq => oq q (fun e9 => hoA (e9 ▸ hq))), ⟨_, by rw [ht]; exact hO1, fun _ => rfl⟩, hS.F ht⟩) hS.2.2 dL_runActs_15 hlocks
set_option maxHeartbeats 4000000 in
set_option maxRecDepth 100000 in
theorem w_runActs_x1 (l : Launch) (E : Env3) (a o : Nat) (A1 : Nat → Prop) (Pin1 Po1 : Heap → Prop) (A : Nat → Prop) (Pin Po : Heap → Prop) (ha : ∀ H, Pin H → ∃ fs, va_at E.1 vwCl (a, .inr (5, fs)) H) (hoA : ¬ A o) (hA1 : ∀ q, A1 q → A q) (h1 : ∀ H, Pin H → Pin1 H) (hPo : ∀ H H1 : Heap, Pin H → H.size ≤ H1.size → (∀ q : Nat, q < H.size → ¬ A1 q → H1[q]? = H[q]?) → Po1 H1 → Po H1) (hM : vx_Met l yX5_runActs (Cond.code yX5_runActs cX5_runActs 2 (some .int) :: ALL) ({ frames := 6, cells := 1, slots := 6, locals := 148 }) (pX [.ref a] E A1 Pin1) qF (xT xIS A1 Po1) 1 6 A1) : Met l yL_runActs (Cond.codeWith yL_runActs cL_runActs 3 (some .int) [(0, 8, 11, 31)] :: ALL) ({ frames := 10, cells := 1, slots := 6, locals := 300 }) (pX [.ref a, .ref o] E (fun q => A q ∨ q = o) (fun H => Pin H ∧ outA E o H)) (qO E A o 1 0 Po) 1 6 (fun q => A q ∨ q = o) := by
  refine mk_w (by decide) rfl (Nat.le_of_ble_eq_true rfl) ?_
  intro p e s m args below meth c hx hb hrt hml hts hown hlocks htb hK hKX hZ hI ls hl
  have hown : s.vm.findClass RL = some m.cls := hown
  have hl : lv_has ls 3 [(0, .ref a), (1, .ref o)] := hl
  obtain ⟨hI, hO⟩ := hI
  have hS : va_S (fun q => A q ∨ q = o) s.heap s.heap [] := va_S.rf
  refine lv_aload_n hx hb dL_runActs_0 rfl (lv_lk hl rfl) ?_
  refine iv_iconst hx hb dL_runActs_1 ?_
  refine lv_aload_n hx hb dL_runActs_2 rfl (lv_lk hl rfl) ?_
  refine x_callC (own := RL) (name := xIS) (vx_runV ⟨hx, hb, hml, hown, hts⟩ hM (cwV 0 hts (gi_V ml_L_85 im_X5_runActs sl_X5_runActs it_X5 cd_X5_runActs) rfl rfl rfl (by decide +kernel) ⟨Nat.le_of_ble_eq_true rfl, Nat.le_of_ble_eq_true rfl⟩) (by obtain ⟨fs, h9⟩ := ha _ hI; exact pX_V hK hKX (hZ.narrow (fun q h9 => Or.inl (hA1 q h9))) (h1 _ hI) h9 rfl) rfl rfl hl.1 rfl (lv_room (Nat.le_of_ble_eq_true rfl)) dL_runActs_3 ⟨Nat.le_of_ble_eq_true rfl, Nat.le_of_ble_eq_true rfl⟩) (fun q h9 => Or.inl (hA1 q h9)) hS hown [] ⟨0, 8, 11, 31⟩ [] htb (fun z hz => nomatch hz) rfl (by decide) (hts _ cl_L_31) (hKX.word xc_IS) (fun q H locs k1 k2 hp1 hS => ?_)
  refine lv_astore_n (lv' := [(2, .ref q), (0, .ref a), (1, .ref o)]) hx hb dL_runActs_11 rfl hl (by decide) rfl (fun ls hl => ?_)
  refine iv_iconst hx hb dL_runActs_12 ?_
  obtain ⟨v0, hO⟩ := hO.kept (k2 o hO.lt (fun h9 => hoA (hA1 o h9)))
  exact W.iret hx hb hrt (fun t ht hW => ⟨rfl, by rw [ht]; exact hPo _ _ hI k1 k2 hp1, ⟨v0, by rw [ht]; exact hO, fun h9 => by exfalso; omega⟩, hS.F ht⟩) hS.2.2 dL_runActs_13 hlocks
set_option maxHeartbeats 4000000 in
set_option maxRecDepth 100000 in
theorem w_undo_ok (l : Launch) (E : Env3) (a o : Nat) (v : Int) (A : Nat → Prop) (Pin Po : Heap → Prop) (ha : ∀ H, Pin H → ∃ fs, va_at E.1 vwCl (a, .inr (5, fs)) H) (hoA : ¬ A o) (hin : onA A Po) (hM : Met l yX5_undo (Cond.code yX5_undo cX5_undo 2 (some .int) :: ALL) ({ frames := 6, cells := 0, slots := 0, locals := 127 }) (pP [.ref a] E Pin) (qH (some (.int (I v))) A Po) 0 0 A) : Met l yL_undo (Cond.codeWith yL_undo cL_undo 3 (some .int) [(0, 8, 11, 31)] :: ALL) ({ frames := 10, cells := 1, slots := 6, locals := 300 }) (pX [.ref a, .ref o] E (fun q => A q ∨ q = o) (fun H => Pin H ∧ outA E o H)) (qO E A o 0 (I v).toInt64 Po) 1 6 (fun q => A q ∨ q = o) := by
  refine mk_w (by decide) rfl (Nat.le_of_ble_eq_true rfl) ?_
  intro p e s m args below meth c hx hb hrt hml hts hown hlocks htb hK hKX hZ hI ls hl
  have hown : s.vm.findClass RL = some m.cls := hown
  have hl : lv_has ls 3 [(0, .ref a), (1, .ref o)] := hl
  obtain ⟨hI, hO⟩ := hI
  have hS : va_S (fun q => A q ∨ q = o) s.heap s.heap [] := va_S.rf
  refine lv_aload_n hx hb dL_undo_0 rfl (lv_lk hl rfl) ?_
  refine iv_iconst hx hb dL_undo_1 ?_
  refine lv_aload_n hx hb dL_undo_2 rfl (lv_lk hl rfl) ?_
  refine call_P (va_runV ⟨hx, hb, hml, hown, hts⟩ hM (cwV 0 hts (gi_V ml_L_89 im_X5_undo sl_X5_undo it_X5 cd_X5_undo) rfl rfl rfl (by decide +kernel) ⟨Nat.le_of_ble_eq_true rfl, Nat.le_of_ble_eq_true rfl⟩) (pP_V hK hI (ha _ hI) rfl) rfl rfl hl.1 rfl (lv_room (Nat.le_of_ble_eq_true rfl)) dL_undo_3 ⟨Nat.le_of_ble_eq_true rfl, Nat.le_of_ble_eq_true rfl⟩) (fun q h9 => Or.inl h9) hS rfl (fun H locs k1 k2 hPo hS => ?_)
  obtain ⟨v0, hO⟩ := hO.kept (k2 o hO.lt hoA)
  refine lv_i2l hx hb dL_undo_6 rfl ?_
  refine x_last hx hb hK hO (Or.inr rfl) hS dL_undo_7 (fun H1 locs hO1 z1 oq hS => ?_)
  refine lv_goto (tgt := 14) hx hb dL_undo_8 (by decide) ?_
  refine iv_iconst hx hb dL_undo_14 ?_
  refine W.widen (k := 1) (n := 6) (Nat.le_of_ble_eq_true rfl) (Nat.le_of_ble_eq_true rfl) ?_
  exact W.iret hx hb hrt (fun t ht hW => ⟨rfl, by rw [ht]; exact hin _ _ hPo (by omega) (fun q _ hq => oq q (fun e9 => hoA (e9 ▸ hq))), ⟨_, by rw [ht]; exact hO1, fun _ => rfl⟩, hS.F ht⟩) hS.2.2 dL_undo_15 hlocks
set_option maxHeartbeats 4000000 in
set_option maxRecDepth 100000 in
theorem w_undo_x1 (l : Launch) (E : Env3) (a o : Nat) (A1 : Nat → Prop) (Pin1 Po1 : Heap → Prop) (A : Nat → Prop) (Pin Po : Heap → Prop) (ha : ∀ H, Pin H → ∃ fs, va_at E.1 vwCl (a, .inr (5, fs)) H) (hoA : ¬ A o) (hA1 : ∀ q, A1 q → A q) (h1 : ∀ H, Pin H → Pin1 H) (hPo : ∀ H H1 : Heap, Pin H → H.size ≤ H1.size → (∀ q : Nat, q < H.size → ¬ A1 q → H1[q]? = H[q]?) → Po1 H1 → Po H1) (hM : vx_Met l yX5_undo (Cond.code yX5_undo cX5_undo 2 (some .int) :: ALL) ({ frames := 6, cells := 1, slots := 6, locals := 127 }) (pX [.ref a] E A1 Pin1) qF (xT xIS A1 Po1) 1 6 A1) : Met l yL_undo (Cond.codeWith yL_undo cL_undo 3 (some .int) [(0, 8, 11, 31)] :: ALL) ({ frames := 10, cells := 1, slots := 6, locals := 300 }) (pX [.ref a, .ref o] E (fun q => A q ∨ q = o) (fun H => Pin H ∧ outA E o H)) (qO E A o 1 0 Po) 1 6 (fun q => A q ∨ q = o) := by
  refine mk_w (by decide) rfl (Nat.le_of_ble_eq_true rfl) ?_
  intro p e s m args below meth c hx hb hrt hml hts hown hlocks htb hK hKX hZ hI ls hl
  have hown : s.vm.findClass RL = some m.cls := hown
  have hl : lv_has ls 3 [(0, .ref a), (1, .ref o)] := hl
  obtain ⟨hI, hO⟩ := hI
  have hS : va_S (fun q => A q ∨ q = o) s.heap s.heap [] := va_S.rf
  refine lv_aload_n hx hb dL_undo_0 rfl (lv_lk hl rfl) ?_
  refine iv_iconst hx hb dL_undo_1 ?_
  refine lv_aload_n hx hb dL_undo_2 rfl (lv_lk hl rfl) ?_
  refine x_callC (own := RL) (name := xIS) (vx_runV ⟨hx, hb, hml, hown, hts⟩ hM (cwV 0 hts (gi_V ml_L_89 im_X5_undo sl_X5_undo it_X5 cd_X5_undo) rfl rfl rfl (by decide +kernel) ⟨Nat.le_of_ble_eq_true rfl, Nat.le_of_ble_eq_true rfl⟩) (by obtain ⟨fs, h9⟩ := ha _ hI; exact pX_V hK hKX (hZ.narrow (fun q h9 => Or.inl (hA1 q h9))) (h1 _ hI) h9 rfl) rfl rfl hl.1 rfl (lv_room (Nat.le_of_ble_eq_true rfl)) dL_undo_3 ⟨Nat.le_of_ble_eq_true rfl, Nat.le_of_ble_eq_true rfl⟩) (fun q h9 => Or.inl (hA1 q h9)) hS hown [] ⟨0, 8, 11, 31⟩ [] htb (fun z hz => nomatch hz) rfl (by decide) (hts _ cl_L_31) (hKX.word xc_IS) (fun q H locs k1 k2 hp1 hS => ?_)
  refine lv_astore_n (lv' := [(2, .ref q), (0, .ref a), (1, .ref o)]) hx hb dL_undo_11 rfl hl (by decide) rfl (fun ls hl => ?_)
  refine iv_iconst hx hb dL_undo_12 ?_
  obtain ⟨v0, hO⟩ := hO.kept (k2 o hO.lt (fun h9 => hoA (hA1 o h9)))
  exact W.iret hx hb hrt (fun t ht hW => ⟨rfl, by rw [ht]; exact hPo _ _ hI k1 k2 hp1, ⟨v0, by rw [ht]; exact hO, fun h9 => by exfalso; omega⟩, hS.F ht⟩) hS.2.2 dL_undo_13 hlocks
