/-! the class: replies, accounts, zones; written by cls.py -/
set_option maxHeartbeats 4000000 in
set_option maxRecDepth 100000 in
theorem m_X2_kind (l : Launch) (E : Env3) (a b c1 d : Nat) (f1 f2 f3 : S) (r : Nat) (hr : r < 36) : Met l yX2_kind (Cond.code yX2_kind cX2_kind 2 (some .int) :: ALL) ({ frames := 1, cells := 0, slots := 0, locals := 21 }) (pR [.ref a, .int (I (r : Int))] E [(a, .inr (2, [.ref b, .ref c1, .ref d])), (b, iA E 36 f1), (c1, iA E 36 f2), (d, iA E 36 f3)]) (qS (some (.int (I (f1 r))))) 0 0 (fun _ => False) := by
  refine mk_met (by decide) rfl (Nat.le_of_ble_eq_true rfl) ?_
  intro p e s m args below meth c hx hb hrt hml hts hown hlocks hnm hP hK ls hl
  have hown : s.vm.findClass RX2 = some m.cls := hown
  have hl : lv_has ls 2 [(0, .ref a), (1, .int (I (r : Int)))] := hl
  have hS : va_S (fun _ => False) s.heap s.heap [] := va_S.rf
  refine lv_aload_n hx hb dX2_kind_0 rfl (lv_lk hl rfl) ?_
  refine va_get (D := E.1) (ci := 2) hx hb hts inX2 hown hK.1 hP 0 rfl rfl 0 (by decide) (hts _ fl_X2_9) (fun _ h9 => h9) rfl dX2_kind_1 ?_
  refine lv_iload_n hx hb dX2_kind_4 rfl (lv_lk hl rfl) ?_
  refine call_S (va_runSN ⟨hx, hb, hml, hown, hts⟩ (m_X5_read l E b 36 r f1 (by omega) (by omega)) ⟨va_cnB 2 hts (gi_all cd_X5_read) rfl rfl rfl (nwK hK 4 rfl) (hts _ it_X5) (by decide +kernel) ⟨Nat.le_of_ble_eq_true rfl, Nat.le_of_ble_eq_true rfl⟩, hts _ st_X5_read, trivial⟩ (pR_S (hP.sub (ws' := [(b, iA E 36 f1)]) [1] rfl) hK) rfl rfl hl.1 rfl (lv_room (Nat.le_of_ble_eq_true rfl)) dX2_kind_5 ⟨Nat.le_of_ble_eq_true rfl, Nat.le_of_ble_eq_true rfl⟩) (fun _ h => h) hS rfl (fun locs hS => ?_)
  exact W.iret hx hb hrt (fun t ht hW => ⟨rfl, ht⟩) hS.2.2 dX2_kind_8 hlocks
set_option maxHeartbeats 4000000 in
set_option maxRecDepth 100000 in
theorem m_X2_value (l : Launch) (E : Env3) (a b c1 d : Nat) (f1 f2 f3 : S) (r : Nat) (hr : r < 36) : Met l yX2_value (Cond.code yX2_value cX2_value 2 (some .int) :: ALL) ({ frames := 1, cells := 0, slots := 0, locals := 21 }) (pR [.ref a, .int (I (r : Int))] E [(a, .inr (2, [.ref b, .ref c1, .ref d])), (b, iA E 36 f1), (c1, iA E 36 f2), (d, iA E 36 f3)]) (qS (some (.int (I (f2 r))))) 0 0 (fun _ => False) := by
  refine mk_met (by decide) rfl (Nat.le_of_ble_eq_true rfl) ?_
  intro p e s m args below meth c hx hb hrt hml hts hown hlocks hnm hP hK ls hl
  have hown : s.vm.findClass RX2 = some m.cls := hown
  have hl : lv_has ls 2 [(0, .ref a), (1, .int (I (r : Int)))] := hl
  have hS : va_S (fun _ => False) s.heap s.heap [] := va_S.rf
  refine lv_aload_n hx hb dX2_value_0 rfl (lv_lk hl rfl) ?_
  refine va_get (D := E.1) (ci := 2) hx hb hts inX2 hown hK.1 hP 0 rfl rfl 1 (by decide) (hts _ fl_X2_15) (fun _ h9 => h9) rfl dX2_value_1 ?_
  refine lv_iload_n hx hb dX2_value_4 rfl (lv_lk hl rfl) ?_
  refine call_S (va_runSN ⟨hx, hb, hml, hown, hts⟩ (m_X5_read l E c1 36 r f2 (by omega) (by omega)) ⟨va_cnB 2 hts (gi_all cd_X5_read) rfl rfl rfl (nwK hK 4 rfl) (hts _ it_X5) (by decide +kernel) ⟨Nat.le_of_ble_eq_true rfl, Nat.le_of_ble_eq_true rfl⟩, hts _ st_X5_read, trivial⟩ (pR_S (hP.sub (ws' := [(c1, iA E 36 f2)]) [2] rfl) hK) rfl rfl hl.1 rfl (lv_room (Nat.le_of_ble_eq_true rfl)) dX2_value_5 ⟨Nat.le_of_ble_eq_true rfl, Nat.le_of_ble_eq_true rfl⟩) (fun _ h => h) hS rfl (fun locs hS => ?_)
  exact W.iret hx hb hrt (fun t ht hW => ⟨rfl, ht⟩) hS.2.2 dX2_value_8 hlocks
set_option maxHeartbeats 4000000 in
set_option maxRecDepth 100000 in
theorem m_X2_ticks (l : Launch) (E : Env3) (a b c1 d : Nat) (f1 f2 f3 : S) (r : Nat) (hr : r < 36) : Met l yX2_ticks (Cond.code yX2_ticks cX2_ticks 2 (some .int) :: ALL) ({ frames := 1, cells := 0, slots := 0, locals := 21 }) (pR [.ref a, .int (I (r : Int))] E [(a, .inr (2, [.ref b, .ref c1, .ref d])), (b, iA E 36 f1), (c1, iA E 36 f2), (d, iA E 36 f3)]) (qS (some (.int (I (f3 r))))) 0 0 (fun _ => False) := by
  refine mk_met (by decide) rfl (Nat.le_of_ble_eq_true rfl) ?_
  intro p e s m args below meth c hx hb hrt hml hts hown hlocks hnm hP hK ls hl
  have hown : s.vm.findClass RX2 = some m.cls := hown
  have hl : lv_has ls 2 [(0, .ref a), (1, .int (I (r : Int)))] := hl
  have hS : va_S (fun _ => False) s.heap s.heap [] := va_S.rf
  refine lv_aload_n hx hb dX2_ticks_0 rfl (lv_lk hl rfl) ?_
  refine va_get (D := E.1) (ci := 2) hx hb hts inX2 hown hK.1 hP 0 rfl rfl 2 (by decide) (hts _ fl_X2_18) (fun _ h9 => h9) rfl dX2_ticks_1 ?_
  refine lv_iload_n hx hb dX2_ticks_4 rfl (lv_lk hl rfl) ?_
  refine call_S (va_runSN ⟨hx, hb, hml, hown, hts⟩ (m_X5_read l E d 36 r f3 (by omega) (by omega)) ⟨va_cnB 2 hts (gi_all cd_X5_read) rfl rfl rfl (nwK hK 4 rfl) (hts _ it_X5) (by decide +kernel) ⟨Nat.le_of_ble_eq_true rfl, Nat.le_of_ble_eq_true rfl⟩, hts _ st_X5_read, trivial⟩ (pR_S (hP.sub (ws' := [(d, iA E 36 f3)]) [3] rfl) hK) rfl rfl hl.1 rfl (lv_room (Nat.le_of_ble_eq_true rfl)) dX2_ticks_5 ⟨Nat.le_of_ble_eq_true rfl, Nat.le_of_ble_eq_true rfl⟩) (fun _ h => h) hS rfl (fun locs hS => ?_)
  exact W.iret hx hb hrt (fun t ht hW => ⟨rfl, ht⟩) hS.2.2 dX2_ticks_8 hlocks
set_option maxHeartbeats 4000000 in
set_option maxRecDepth 100000 in
theorem m_X2_put (l : Launch) (E : Env3) (a b c1 d : Nat) (f1 f2 f3 : S) (hd : va_D (fun _ => True) [(a, .inr (2, [.ref b, .ref c1, .ref d])), (b, iA E 36 f1), (c1, iA E 36 f2), (d, iA E 36 f3)]) (r : Nat) (hr : r < 36) (k v e9 : Int) : Met l yX2_put (Cond.code yX2_put cX2_put 5 none :: ALL) ({ frames := 1, cells := 0, slots := 0, locals := 22 }) (pR [.ref a, .int (I (r : Int)), .int (I k), .int (I v), .int (I e9)] E [(a, .inr (2, [.ref b, .ref c1, .ref d])), (b, iA E 36 f1), (c1, iA E 36 f2), (d, iA E 36 f3)]) (qW none E [(a, .inr (2, [.ref b, .ref c1, .ref d])), (b, iA E 36 f1), (c1, iA E 36 f2), (d, iA E 36 f3)] [(a, .inr (2, [.ref b, .ref c1, .ref d])), (b, iA E 36 (up f1 r k)), (c1, iA E 36 (up f2 r v)), (d, iA E 36 (up f3 r e9))]) 0 0 (adIn [(a, .inr (2, [.ref b, .ref c1, .ref d])), (b, iA E 36 f1), (c1, iA E 36 f2), (d, iA E 36 f3)]) := by
  refine mk_met (by decide) rfl (Nat.le_of_ble_eq_true rfl) ?_
  intro p e s m args below meth c hx hb hrt hml hts hown hlocks hnm hP hK ls hl
  have hown : s.vm.findClass RX2 = some m.cls := hown
  have hl : lv_has ls 5 [(0, .ref a), (1, .int (I (r : Int))), (2, .int (I k)), (3, .int (I v)), (4, .int (I e9))] := hl
  have hD : va_D (adIn [(a, .inr (2, [.ref b, .ref c1, .ref d])), (b, iA E 36 f1), (c1, iA E 36 f2), (d, iA E 36 f3)]) [(a, .inr (2, [.ref b, .ref c1, .ref d])), (b, iA E 36 f1), (c1, iA E 36 f2), (d, iA E 36 f3)] := dself hd
  have hS : va_S (adIn [(a, .inr (2, [.ref b, .ref c1, .ref d])), (b, iA E 36 f1), (c1, iA E 36 f2), (d, iA E 36 f3)]) s.heap s.heap [] := va_S.rf
  refine lv_aload_n hx hb dX2_put_0 rfl (lv_lk hl rfl) ?_
  refine va_get (D := E.1) (ci := 2) hx hb hts inX2 hown hK.1 hP 0 rfl rfl 0 (by decide) (hts _ fl_X2_9) (fun _ h9 => h9) rfl dX2_put_1 ?_
  refine lv_iload_n hx hb dX2_put_4 rfl (lv_lk hl rfl) ?_
  refine lv_iload_n hx hb dX2_put_5 rfl (lv_lk hl rfl) ?_
  refine call_W (va_runSN ⟨hx, hb, hml, hown, hts⟩ (m_X5_write l E b 36 r f1 k (by omega) (by omega)) ⟨va_cnB 3 hts (gi_all cd_X5_write) rfl rfl rfl (nwK hK 10 rfl) (hts _ it_X5) (by decide +kernel) ⟨Nat.le_of_ble_eq_true rfl, Nat.le_of_ble_eq_true rfl⟩, hts _ st_X5_write, trivial⟩ (pR_S (hP.sub (ws' := [(b, iA E 36 f1)]) [1] rfl) hK) rfl rfl hl.1 rfl (lv_room (Nat.le_of_ble_eq_true rfl)) dX2_put_6 ⟨Nat.le_of_ble_eq_true rfl, Nat.le_of_ble_eq_true rfl⟩) hP (dm hD rfl) hS [1] rfl (by decide) rfl [(a, .inr (2, [.ref b, .ref c1, .ref d])), (b, iA E 36 (up f1 r k)), (c1, iA E 36 f2), (d, iA E 36 f3)] (rfl) rfl (fun H locs hP hS => ?_)
  refine lv_aload_n hx hb dX2_put_9 rfl (lv_lk hl rfl) ?_
  refine va_get (D := E.1) (ci := 2) hx hb hts inX2 hown hK.1 hP 0 rfl rfl 1 (by decide) (hts _ fl_X2_15) (fun _ h9 => h9) rfl dX2_put_10 ?_
  refine lv_iload_n hx hb dX2_put_13 rfl (lv_lk hl rfl) ?_
  refine lv_iload_n hx hb dX2_put_14 rfl (lv_lk hl rfl) ?_
  refine call_W (va_runSN ⟨hx, hb, hml, hown, hts⟩ (m_X5_write l E c1 36 r f2 v (by omega) (by omega)) ⟨va_cnB 3 hts (gi_all cd_X5_write) rfl rfl rfl (nwK hK 10 rfl) (hts _ it_X5) (by decide +kernel) ⟨Nat.le_of_ble_eq_true rfl, Nat.le_of_ble_eq_true rfl⟩, hts _ st_X5_write, trivial⟩ (pR_S (hP.sub (ws' := [(c1, iA E 36 f2)]) [2] rfl) hK) rfl rfl hl.1 rfl (lv_room (Nat.le_of_ble_eq_true rfl)) dX2_put_15 ⟨Nat.le_of_ble_eq_true rfl, Nat.le_of_ble_eq_true rfl⟩) hP (dm hD rfl) hS [2] rfl (by decide) rfl [(a, .inr (2, [.ref b, .ref c1, .ref d])), (b, iA E 36 (up f1 r k)), (c1, iA E 36 (up f2 r v)), (d, iA E 36 f3)] (rfl) rfl (fun H locs hP hS => ?_)
  refine lv_aload_n hx hb dX2_put_18 rfl (lv_lk hl rfl) ?_
  refine va_get (D := E.1) (ci := 2) hx hb hts inX2 hown hK.1 hP 0 rfl rfl 2 (by decide) (hts _ fl_X2_18) (fun _ h9 => h9) rfl dX2_put_19 ?_
  refine lv_iload_n hx hb dX2_put_22 rfl (lv_lk hl rfl) ?_
  refine lv_iload hx hb dX2_put_23 (lv_lk hl rfl) ?_
  refine call_W (va_runSN ⟨hx, hb, hml, hown, hts⟩ (m_X5_write l E d 36 r f3 e9 (by omega) (by omega)) ⟨va_cnB 3 hts (gi_all cd_X5_write) rfl rfl rfl (nwK hK 10 rfl) (hts _ it_X5) (by decide +kernel) ⟨Nat.le_of_ble_eq_true rfl, Nat.le_of_ble_eq_true rfl⟩, hts _ st_X5_write, trivial⟩ (pR_S (hP.sub (ws' := [(d, iA E 36 f3)]) [3] rfl) hK) rfl rfl hl.1 rfl (lv_room (Nat.le_of_ble_eq_true rfl)) dX2_put_25 ⟨Nat.le_of_ble_eq_true rfl, Nat.le_of_ble_eq_true rfl⟩) hP (dm hD rfl) hS [3] rfl (by decide) rfl [(a, .inr (2, [.ref b, .ref c1, .ref d])), (b, iA E 36 (up f1 r k)), (c1, iA E 36 (up f2 r v)), (d, iA E 36 (up f3 r e9))] (rfl) rfl (fun H locs hP hS => ?_)
  exact W.vret hx hb hrt (fun t ht hW => ⟨rfl, by rw [ht]; exact hP, hS.F ht⟩) hS.2.2 dX2_put_28 hlocks
set_option maxHeartbeats 4000000 in
set_option maxRecDepth 100000 in
theorem m_X0_countQuestionTo (l : Launch) (E : Env3) (a b : Nat) (s1 s2 s3 s4 s5 : Int) (g : S) (hab : a ≠ b) (z : Nat) (hz : z < 6) : Met l yX0_countQuestionTo (Cond.code yX0_countQuestionTo cX0_countQuestionTo 2 none :: ALL) ({ frames := 1, cells := 0, slots := 0, locals := 22 }) (pR [.ref a, .int (I (z : Int))] E [(a, .inr (0, [.int (I s1), .int (I s2), .int (I s3), .int (I s4), .int (I s5), .ref b])), (b, iA E 6 g)]) (qW none E [(a, .inr (0, [.int (I s1), .int (I s2), .int (I s3), .int (I s4), .int (I s5), .ref b])), (b, iA E 6 g)] [(a, .inr (0, [.int (I s1), .int (I (s2 + 1)), .int (I s3), .int (I s4), .int (I s5), .ref b])), (b, iA E 6 (up g z (g z + 1)))]) 0 0 (adIn [(a, .inr (0, [.int (I s1), .int (I s2), .int (I s3), .int (I s4), .int (I s5), .ref b])), (b, iA E 6 g)]) := by
  refine mk_met (by decide) rfl (Nat.le_of_ble_eq_true rfl) ?_
  intro p e s m args below meth c hx hb hrt hml hts hown hlocks hnm hP hK ls hl
  have hown : s.vm.findClass RX0 = some m.cls := hown
  have hl : lv_has ls 2 [(0, .ref a), (1, .int (I (z : Int)))] := hl
  have hD : va_D (adIn [(a, .inr (0, [.int (I s1), .int (I s2), .int (I s3), .int (I s4), .int (I s5), .ref b])), (b, iA E 6 g)]) [(a, .inr (0, [.int (I s1), .int (I s2), .int (I s3), .int (I s4), .int (I s5), .ref b])), (b, iA E 6 g)] := D_2 hab
  have hS : va_S (adIn [(a, .inr (0, [.int (I s1), .int (I s2), .int (I s3), .int (I s4), .int (I s5), .ref b])), (b, iA E 6 g)]) s.heap s.heap [] := va_S.rf
  refine lv_aload_n hx hb dX0_countQuestionTo_0 rfl (lv_lk hl rfl) ?_
  refine lv_dup hx hb dX0_countQuestionTo_1 rfl ?_
  refine va_get (D := E.1) (ci := 0) hx hb hts inX0 hown hK.1 hP 0 rfl rfl 1 (by decide) (hts _ fl_X0_19) (fun _ h9 => h9) rfl dX0_countQuestionTo_2 ?_
  refine iv_iconst hx hb dX0_countQuestionTo_5 ?_
  refine iv_iadd hx hb dX0_countQuestionTo_6 ?_
  refine va_put (ci := 0) (ty := .int) hx hb hts inX0 tyX0 tyX0_ok nmX0 hown hK.1 hP (dm hD rfl) hS 0 rfl rfl 1 (by decide) (hts _ fl_X0_19) (fun _ h9 => h9) rfl (by decide +kernel) rfl rfl (Nat.le_of_ble_eq_true rfl) dX0_countQuestionTo_7 (fun H locs hP _ hS => ?_)
  have hP : va_P E.1 vwCl [(a, .inr (0, [.int (I s1), .int (I (s2 + 1)), .int (I s3), .int (I s4), .int (I s5), .ref b])), (b, iA E 6 g)] H := hP
  refine lv_aload_n hx hb dX0_countQuestionTo_10 rfl (lv_lk hl rfl) ?_
  refine va_get (D := E.1) (ci := 0) hx hb hts inX0 hown hK.1 hP 0 rfl rfl 5 (by decide) (hts _ fl_X0_9) (fun _ h9 => h9) rfl dX0_countQuestionTo_11 ?_
  refine lv_iload_n hx hb dX0_countQuestionTo_14 rfl (lv_lk hl rfl) ?_
  refine lv_aload_n hx hb dX0_countQuestionTo_15 rfl (lv_lk hl rfl) ?_
  refine va_get (D := E.1) (ci := 0) hx hb hts inX0 hown hK.1 hP 0 rfl rfl 5 (by decide) (hts _ fl_X0_9) (fun _ h9 => h9) rfl dX0_countQuestionTo_16 ?_
  refine lv_iload_n hx hb dX0_countQuestionTo_19 rfl (lv_lk hl rfl) ?_
  refine call_S (va_runSN ⟨hx, hb, hml, hown, hts⟩ (m_X5_read l E b 6 z g (by omega) (by omega)) ⟨va_cnB 2 hts (gi_all cd_X5_read) rfl rfl rfl (nwK hK 11 rfl) (hts _ it_X5) (by decide +kernel) ⟨Nat.le_of_ble_eq_true rfl, Nat.le_of_ble_eq_true rfl⟩, hts _ st_X5_read, trivial⟩ (pR_S (hP.sub (ws' := [(b, iA E 6 g)]) [1] rfl) hK) rfl rfl hl.1 rfl (lv_room (Nat.le_of_ble_eq_true rfl)) dX0_countQuestionTo_20 ⟨Nat.le_of_ble_eq_true rfl, Nat.le_of_ble_eq_true rfl⟩) (fun _ h => h) hS rfl (fun locs hS => ?_)
  refine iv_iconst hx hb dX0_countQuestionTo_23 ?_
  refine iv_iadd hx hb dX0_countQuestionTo_24 ?_
  refine call_W (va_runSN ⟨hx, hb, hml, hown, hts⟩ (m_X5_write l E b 6 z g (g z + 1) (by omega) (by omega)) ⟨va_cnB 3 hts (gi_all cd_X5_write) rfl rfl rfl (nwK hK 12 rfl) (hts _ it_X5) (by decide +kernel) ⟨Nat.le_of_ble_eq_true rfl, Nat.le_of_ble_eq_true rfl⟩, hts _ st_X5_write, trivial⟩ (pR_S (hP.sub (ws' := [(b, iA E 6 g)]) [1] rfl) hK) rfl rfl hl.1 rfl (lv_room (Nat.le_of_ble_eq_true rfl)) dX0_countQuestionTo_25 ⟨Nat.le_of_ble_eq_true rfl, Nat.le_of_ble_eq_true rfl⟩) hP (dm hD rfl) hS [1] rfl (by decide) rfl [(a, .inr (0, [.int (I s1), .int (I (s2 + 1)), .int (I s3), .int (I s4), .int (I s5), .ref b])), (b, iA E 6 (up g z (g z + 1)))] (rfl) rfl (fun H locs hP hS => ?_)
  exact W.vret hx hb hrt (fun t ht hW => ⟨rfl, by rw [ht]; exact hP, hS.F ht⟩) hS.2.2 dX0_countQuestionTo_28 hlocks
set_option maxHeartbeats 4000000 in
set_option maxRecDepth 100000 in
theorem m_X2_copyFrom (l : Launch) (E : Env3) (a b c1 d a2 b2 c2 d2 : Nat) (f1 f2 f3 h1 h2 h3 : S) (hd : va_D (fun _ => True) [(a, .inr (2, [.ref b, .ref c1, .ref d])), (b, iA E 36 f1), (c1, iA E 36 f2), (d, iA E 36 f3), (a2, .inr (2, [.ref b2, .ref c2, .ref d2])), (b2, iA E 36 h1), (c2, iA E 36 h2), (d2, iA E 36 h3)]) : Met l yX2_copyFrom (Cond.code yX2_copyFrom cX2_copyFrom 2 none :: ALL) ({ frames := 2, cells := 0, slots := 0, locals := 85 }) (pR [.ref a, .ref a2] E [(a, .inr (2, [.ref b, .ref c1, .ref d])), (b, iA E 36 f1), (c1, iA E 36 f2), (d, iA E 36 f3), (a2, .inr (2, [.ref b2, .ref c2, .ref d2])), (b2, iA E 36 h1), (c2, iA E 36 h2), (d2, iA E 36 h3)]) (qW none E [(a, .inr (2, [.ref b, .ref c1, .ref d])), (b, iA E 36 f1), (c1, iA E 36 f2), (d, iA E 36 f3), (a2, .inr (2, [.ref b2, .ref c2, .ref d2])), (b2, iA E 36 h1), (c2, iA E 36 h2), (d2, iA E 36 h3)] [(a, .inr (2, [.ref b, .ref c1, .ref d])), (b, iA E 36 h1), (c1, iA E 36 h2), (d, iA E 36 h3), (a2, .inr (2, [.ref b2, .ref c2, .ref d2])), (b2, iA E 36 h1), (c2, iA E 36 h2), (d2, iA E 36 h3)]) 0 0 (adIn [(a, .inr (2, [.ref b, .ref c1, .ref d])), (b, iA E 36 f1), (c1, iA E 36 f2), (d, iA E 36 f3), (a2, .inr (2, [.ref b2, .ref c2, .ref d2])), (b2, iA E 36 h1), (c2, iA E 36 h2), (d2, iA E 36 h3)]) := by
  refine mk_met (by decide) rfl (Nat.le_of_ble_eq_true rfl) ?_
  intro p e s m args below meth c hx hb hrt hml hts hown hlocks hnm hP hK ls hl
  have hown : s.vm.findClass RX2 = some m.cls := hown
  have hl : lv_has ls 2 [(0, .ref a), (1, .ref a2)] := hl
  have hD : va_D (adIn [(a, .inr (2, [.ref b, .ref c1, .ref d])), (b, iA E 36 f1), (c1, iA E 36 f2), (d, iA E 36 f3), (a2, .inr (2, [.ref b2, .ref c2, .ref d2])), (b2, iA E 36 h1), (c2, iA E 36 h2), (d2, iA E 36 h3)]) [(a, .inr (2, [.ref b, .ref c1, .ref d])), (b, iA E 36 f1), (c1, iA E 36 f2), (d, iA E 36 f3), (a2, .inr (2, [.ref b2, .ref c2, .ref d2])), (b2, iA E 36 h1), (c2, iA E 36 h2), (d2, iA E 36 h3)] := dself hd
  have hS : va_S (adIn [(a, .inr (2, [.ref b, .ref c1, .ref d])), (b, iA E 36 f1), (c1, iA E 36 f2), (d, iA E 36 f3), (a2, .inr (2, [.ref b2, .ref c2, .ref d2])), (b2, iA E 36 h1), (c2, iA E 36 h2), (d2, iA E 36 h3)]) s.heap s.heap [] := va_S.rf
  refine lv_aload_n hx hb dX2_copyFrom_0 rfl (lv_lk hl rfl) ?_
  refine va_get (D := E.1) (ci := 2) hx hb hts inX2 hown hK.1 hP 4 rfl rfl 0 (by decide) (hts _ fl_X2_9) (fun _ h9 => h9) rfl dX2_copyFrom_1 ?_
  refine lv_aload_n hx hb dX2_copyFrom_4 rfl (lv_lk hl rfl) ?_
  refine va_get (D := E.1) (ci := 2) hx hb hts inX2 hown hK.1 hP 0 rfl rfl 0 (by decide) (hts _ fl_X2_9) (fun _ h9 => h9) rfl dX2_copyFrom_5 ?_
  refine call_W (va_runSN ⟨hx, hb, hml, hown, hts⟩ (m_X5_copyRow l E b2 b 36 h1 f1 (fun h9 => absurd (hd.1 5 1 _ _ rfl rfl h9) (by decide)) (by omega)) ⟨va_cnB 2 hts (gi_all cd_X5_copyRow) rfl rfl rfl (nwK hK 7 rfl) (hts _ it_X5) (by decide +kernel) ⟨Nat.le_of_ble_eq_true rfl, Nat.le_of_ble_eq_true rfl⟩, hts _ st_X5_copyRow, trivial⟩ (pR_S (hP.sub (ws' := [(b2, iA E 36 h1), (b, iA E 36 f1)]) [5, 1] rfl) hK) rfl rfl hl.1 rfl (lv_room (Nat.le_of_ble_eq_true rfl)) dX2_copyFrom_8 ⟨Nat.le_of_ble_eq_true rfl, Nat.le_of_ble_eq_true rfl⟩) hP (dm hD rfl) hS [5, 1] rfl (by decide) rfl [(a, .inr (2, [.ref b, .ref c1, .ref d])), (b, iA E 36 h1), (c1, iA E 36 f2), (d, iA E 36 f3), (a2, .inr (2, [.ref b2, .ref c2, .ref d2])), (b2, iA E 36 h1), (c2, iA E 36 h2), (d2, iA E 36 h3)] (rfl) rfl (fun H locs hP hS => ?_)
  refine lv_aload_n hx hb dX2_copyFrom_11 rfl (lv_lk hl rfl) ?_
  refine va_get (D := E.1) (ci := 2) hx hb hts inX2 hown hK.1 hP 4 rfl rfl 1 (by decide) (hts _ fl_X2_15) (fun _ h9 => h9) rfl dX2_copyFrom_12 ?_
  refine lv_aload_n hx hb dX2_copyFrom_15 rfl (lv_lk hl rfl) ?_
  refine va_get (D := E.1) (ci := 2) hx hb hts inX2 hown hK.1 hP 0 rfl rfl 1 (by decide) (hts _ fl_X2_15) (fun _ h9 => h9) rfl dX2_copyFrom_16 ?_
  refine call_W (va_runSN ⟨hx, hb, hml, hown, hts⟩ (m_X5_copyRow l E c2 c1 36 h2 f2 (fun h9 => absurd (hd.1 6 2 _ _ rfl rfl h9) (by decide)) (by omega)) ⟨va_cnB 2 hts (gi_all cd_X5_copyRow) rfl rfl rfl (nwK hK 7 rfl) (hts _ it_X5) (by decide +kernel) ⟨Nat.le_of_ble_eq_true rfl, Nat.le_of_ble_eq_true rfl⟩, hts _ st_X5_copyRow, trivial⟩ (pR_S (hP.sub (ws' := [(c2, iA E 36 h2), (c1, iA E 36 f2)]) [6, 2] rfl) hK) rfl rfl hl.1 rfl (lv_room (Nat.le_of_ble_eq_true rfl)) dX2_copyFrom_19 ⟨Nat.le_of_ble_eq_true rfl, Nat.le_of_ble_eq_true rfl⟩) hP (dm hD rfl) hS [6, 2] rfl (by decide) rfl [(a, .inr (2, [.ref b, .ref c1, .ref d])), (b, iA E 36 h1), (c1, iA E 36 h2), (d, iA E 36 f3), (a2, .inr (2, [.ref b2, .ref c2, .ref d2])), (b2, iA E 36 h1), (c2, iA E 36 h2), (d2, iA E 36 h3)] (rfl) rfl (fun H locs hP hS => ?_)
  refine lv_aload_n hx hb dX2_copyFrom_22 rfl (lv_lk hl rfl) ?_
  refine va_get (D := E.1) (ci := 2) hx hb hts inX2 hown hK.1 hP 4 rfl rfl 2 (by decide) (hts _ fl_X2_18) (fun _ h9 => h9) rfl dX2_copyFrom_23 ?_
  refine lv_aload_n hx hb dX2_copyFrom_26 rfl (lv_lk hl rfl) ?_
  refine va_get (D := E.1) (ci := 2) hx hb hts inX2 hown hK.1 hP 0 rfl rfl 2 (by decide) (hts _ fl_X2_18) (fun _ h9 => h9) rfl dX2_copyFrom_27 ?_
  refine call_W (va_runSN ⟨hx, hb, hml, hown, hts⟩ (m_X5_copyRow l E d2 d 36 h3 f3 (fun h9 => absurd (hd.1 7 3 _ _ rfl rfl h9) (by decide)) (by omega)) ⟨va_cnB 2 hts (gi_all cd_X5_copyRow) rfl rfl rfl (nwK hK 7 rfl) (hts _ it_X5) (by decide +kernel) ⟨Nat.le_of_ble_eq_true rfl, Nat.le_of_ble_eq_true rfl⟩, hts _ st_X5_copyRow, trivial⟩ (pR_S (hP.sub (ws' := [(d2, iA E 36 h3), (d, iA E 36 f3)]) [7, 3] rfl) hK) rfl rfl hl.1 rfl (lv_room (Nat.le_of_ble_eq_true rfl)) dX2_copyFrom_30 ⟨Nat.le_of_ble_eq_true rfl, Nat.le_of_ble_eq_true rfl⟩) hP (dm hD rfl) hS [7, 3] rfl (by decide) rfl [(a, .inr (2, [.ref b, .ref c1, .ref d])), (b, iA E 36 h1), (c1, iA E 36 h2), (d, iA E 36 h3), (a2, .inr (2, [.ref b2, .ref c2, .ref d2])), (b2, iA E 36 h1), (c2, iA E 36 h2), (d2, iA E 36 h3)] (rfl) rfl (fun H locs hP hS => ?_)
  exact W.vret hx hb hrt (fun t ht hW => ⟨rfl, by rw [ht]; exact hP, hS.F ht⟩) hS.2.2 dX2_copyFrom_33 hlocks
set_option maxHeartbeats 4000000 in
set_option maxRecDepth 100000 in
theorem m_X4_copyFrom (l : Launch) (E : Env3) (a b c1 d a2 b2 c2 d2 : Nat) (f1 f2 f3 h1 h2 h3 : S) (hd : va_D (fun _ => True) [(a, .inr (4, [.ref b, .ref c1, .ref d])), (b, iA E 6 f1), (c1, iA E 6 f2), (d, iA E 6 f3), (a2, .inr (4, [.ref b2, .ref c2, .ref d2])), (b2, iA E 6 h1), (c2, iA E 6 h2), (d2, iA E 6 h3)]) : Met l yX4_copyFrom (Cond.code yX4_copyFrom cX4_copyFrom 2 none :: ALL) ({ frames := 2, cells := 0, slots := 0, locals := 85 }) (pR [.ref a, .ref a2] E [(a, .inr (4, [.ref b, .ref c1, .ref d])), (b, iA E 6 f1), (c1, iA E 6 f2), (d, iA E 6 f3), (a2, .inr (4, [.ref b2, .ref c2, .ref d2])), (b2, iA E 6 h1), (c2, iA E 6 h2), (d2, iA E 6 h3)]) (qW none E [(a, .inr (4, [.ref b, .ref c1, .ref d])), (b, iA E 6 f1), (c1, iA E 6 f2), (d, iA E 6 f3), (a2, .inr (4, [.ref b2, .ref c2, .ref d2])), (b2, iA E 6 h1), (c2, iA E 6 h2), (d2, iA E 6 h3)] [(a, .inr (4, [.ref b, .ref c1, .ref d])), (b, iA E 6 h1), (c1, iA E 6 h2), (d, iA E 6 h3), (a2, .inr (4, [.ref b2, .ref c2, .ref d2])), (b2, iA E 6 h1), (c2, iA E 6 h2), (d2, iA E 6 h3)]) 0 0 (adIn [(a, .inr (4, [.ref b, .ref c1, .ref d])), (b, iA E 6 f1), (c1, iA E 6 f2), (d, iA E 6 f3), (a2, .inr (4, [.ref b2, .ref c2, .ref d2])), (b2, iA E 6 h1), (c2, iA E 6 h2), (d2, iA E 6 h3)]) := by
  refine mk_met (by decide) rfl (Nat.le_of_ble_eq_true rfl) ?_
  intro p e s m args below meth c hx hb hrt hml hts hown hlocks hnm hP hK ls hl
  have hown : s.vm.findClass RX4 = some m.cls := hown
  have hl : lv_has ls 2 [(0, .ref a), (1, .ref a2)] := hl
  have hD : va_D (adIn [(a, .inr (4, [.ref b, .ref c1, .ref d])), (b, iA E 6 f1), (c1, iA E 6 f2), (d, iA E 6 f3), (a2, .inr (4, [.ref b2, .ref c2, .ref d2])), (b2, iA E 6 h1), (c2, iA E 6 h2), (d2, iA E 6 h3)]) [(a, .inr (4, [.ref b, .ref c1, .ref d])), (b, iA E 6 f1), (c1, iA E 6 f2), (d, iA E 6 f3), (a2, .inr (4, [.ref b2, .ref c2, .ref d2])), (b2, iA E 6 h1), (c2, iA E 6 h2), (d2, iA E 6 h3)] := dself hd
  have hS : va_S (adIn [(a, .inr (4, [.ref b, .ref c1, .ref d])), (b, iA E 6 f1), (c1, iA E 6 f2), (d, iA E 6 f3), (a2, .inr (4, [.ref b2, .ref c2, .ref d2])), (b2, iA E 6 h1), (c2, iA E 6 h2), (d2, iA E 6 h3)]) s.heap s.heap [] := va_S.rf
  refine lv_aload_n hx hb dX4_copyFrom_0 rfl (lv_lk hl rfl) ?_
  refine va_get (D := E.1) (ci := 4) hx hb hts inX4 hown hK.1 hP 4 rfl rfl 0 (by decide) (hts _ fl_X4_9) (fun _ h9 => h9) rfl dX4_copyFrom_1 ?_
  refine lv_aload_n hx hb dX4_copyFrom_4 rfl (lv_lk hl rfl) ?_
  refine va_get (D := E.1) (ci := 4) hx hb hts inX4 hown hK.1 hP 0 rfl rfl 0 (by decide) (hts _ fl_X4_9) (fun _ h9 => h9) rfl dX4_copyFrom_5 ?_
  refine call_W (va_runSN ⟨hx, hb, hml, hown, hts⟩ (m_X5_copyRow l E b2 b 6 h1 f1 (fun h9 => absurd (hd.1 5 1 _ _ rfl rfl h9) (by decide)) (by omega)) ⟨va_cnB 2 hts (gi_all cd_X5_copyRow) rfl rfl rfl (nwK hK 6 rfl) (hts _ it_X5) (by decide +kernel) ⟨Nat.le_of_ble_eq_true rfl, Nat.le_of_ble_eq_true rfl⟩, hts _ st_X5_copyRow, trivial⟩ (pR_S (hP.sub (ws' := [(b2, iA E 6 h1), (b, iA E 6 f1)]) [5, 1] rfl) hK) rfl rfl hl.1 rfl (lv_room (Nat.le_of_ble_eq_true rfl)) dX4_copyFrom_8 ⟨Nat.le_of_ble_eq_true rfl, Nat.le_of_ble_eq_true rfl⟩) hP (dm hD rfl) hS [5, 1] rfl (by decide) rfl [(a, .inr (4, [.ref b, .ref c1, .ref d])), (b, iA E 6 h1), (c1, iA E 6 f2), (d, iA E 6 f3), (a2, .inr (4, [.ref b2, .ref c2, .ref d2])), (b2, iA E 6 h1), (c2, iA E 6 h2), (d2, iA E 6 h3)] (rfl) rfl (fun H locs hP hS => ?_)
  refine lv_aload_n hx hb dX4_copyFrom_11 rfl (lv_lk hl rfl) ?_
  refine va_get (D := E.1) (ci := 4) hx hb hts inX4 hown hK.1 hP 4 rfl rfl 1 (by decide) (hts _ fl_X4_15) (fun _ h9 => h9) rfl dX4_copyFrom_12 ?_
  refine lv_aload_n hx hb dX4_copyFrom_15 rfl (lv_lk hl rfl) ?_
  refine va_get (D := E.1) (ci := 4) hx hb hts inX4 hown hK.1 hP 0 rfl rfl 1 (by decide) (hts _ fl_X4_15) (fun _ h9 => h9) rfl dX4_copyFrom_16 ?_
  refine call_W (va_runSN ⟨hx, hb, hml, hown, hts⟩ (m_X5_copyRow l E c2 c1 6 h2 f2 (fun h9 => absurd (hd.1 6 2 _ _ rfl rfl h9) (by decide)) (by omega)) ⟨va_cnB 2 hts (gi_all cd_X5_copyRow) rfl rfl rfl (nwK hK 6 rfl) (hts _ it_X5) (by decide +kernel) ⟨Nat.le_of_ble_eq_true rfl, Nat.le_of_ble_eq_true rfl⟩, hts _ st_X5_copyRow, trivial⟩ (pR_S (hP.sub (ws' := [(c2, iA E 6 h2), (c1, iA E 6 f2)]) [6, 2] rfl) hK) rfl rfl hl.1 rfl (lv_room (Nat.le_of_ble_eq_true rfl)) dX4_copyFrom_19 ⟨Nat.le_of_ble_eq_true rfl, Nat.le_of_ble_eq_true rfl⟩) hP (dm hD rfl) hS [6, 2] rfl (by decide) rfl [(a, .inr (4, [.ref b, .ref c1, .ref d])), (b, iA E 6 h1), (c1, iA E 6 h2), (d, iA E 6 f3), (a2, .inr (4, [.ref b2, .ref c2, .ref d2])), (b2, iA E 6 h1), (c2, iA E 6 h2), (d2, iA E 6 h3)] (rfl) rfl (fun H locs hP hS => ?_)
  refine lv_aload_n hx hb dX4_copyFrom_22 rfl (lv_lk hl rfl) ?_
  refine va_get (D := E.1) (ci := 4) hx hb hts inX4 hown hK.1 hP 4 rfl rfl 2 (by decide) (hts _ fl_X4_18) (fun _ h9 => h9) rfl dX4_copyFrom_23 ?_
  refine lv_aload_n hx hb dX4_copyFrom_26 rfl (lv_lk hl rfl) ?_
  refine va_get (D := E.1) (ci := 4) hx hb hts inX4 hown hK.1 hP 0 rfl rfl 2 (by decide) (hts _ fl_X4_18) (fun _ h9 => h9) rfl dX4_copyFrom_27 ?_
  refine call_W (va_runSN ⟨hx, hb, hml, hown, hts⟩ (m_X5_copyRow l E d2 d 6 h3 f3 (fun h9 => absurd (hd.1 7 3 _ _ rfl rfl h9) (by decide)) (by omega)) ⟨va_cnB 2 hts (gi_all cd_X5_copyRow) rfl rfl rfl (nwK hK 6 rfl) (hts _ it_X5) (by decide +kernel) ⟨Nat.le_of_ble_eq_true rfl, Nat.le_of_ble_eq_true rfl⟩, hts _ st_X5_copyRow, trivial⟩ (pR_S (hP.sub (ws' := [(d2, iA E 6 h3), (d, iA E 6 f3)]) [7, 3] rfl) hK) rfl rfl hl.1 rfl (lv_room (Nat.le_of_ble_eq_true rfl)) dX4_copyFrom_30 ⟨Nat.le_of_ble_eq_true rfl, Nat.le_of_ble_eq_true rfl⟩) hP (dm hD rfl) hS [7, 3] rfl (by decide) rfl [(a, .inr (4, [.ref b, .ref c1, .ref d])), (b, iA E 6 h1), (c1, iA E 6 h2), (d, iA E 6 h3), (a2, .inr (4, [.ref b2, .ref c2, .ref d2])), (b2, iA E 6 h1), (c2, iA E 6 h2), (d2, iA E 6 h3)] (rfl) rfl (fun H locs hP hS => ?_)
  exact W.vret hx hb hrt (fun t ht hW => ⟨rfl, by rw [ht]; exact hP, hS.F ht⟩) hS.2.2 dX4_copyFrom_33 hlocks
set_option maxHeartbeats 4000000 in
set_option maxRecDepth 100000 in
theorem m_X0_copyFrom (l : Launch) (E : Env3) (a b a2 b2 : Nat) (s1 s2 s3 s4 s5 u1 u2 u3 u4 u5 : Int) (g h : S) (hd : va_D (fun _ => True) [(a, .inr (0, [.int (I s1), .int (I s2), .int (I s3), .int (I s4), .int (I s5), .ref b])), (b, iA E 6 g), (a2, .inr (0, [.int (I u1), .int (I u2), .int (I u3), .int (I u4), .int (I u5), .ref b2])), (b2, iA E 6 h)]) : Met l yX0_copyFrom (Cond.code yX0_copyFrom cX0_copyFrom 2 none :: ALL) ({ frames := 2, cells := 0, slots := 0, locals := 85 }) (pR [.ref a, .ref a2] E [(a, .inr (0, [.int (I s1), .int (I s2), .int (I s3), .int (I s4), .int (I s5), .ref b])), (b, iA E 6 g), (a2, .inr (0, [.int (I u1), .int (I u2), .int (I u3), .int (I u4), .int (I u5), .ref b2])), (b2, iA E 6 h)]) (qW none E [(a, .inr (0, [.int (I s1), .int (I s2), .int (I s3), .int (I s4), .int (I s5), .ref b])), (b, iA E 6 g), (a2, .inr (0, [.int (I u1), .int (I u2), .int (I u3), .int (I u4), .int (I u5), .ref b2])), (b2, iA E 6 h)] [(a, .inr (0, [.int (I u1), .int (I u2), .int (I u3), .int (I u4), .int (I u5), .ref b])), (b, iA E 6 h), (a2, .inr (0, [.int (I u1), .int (I u2), .int (I u3), .int (I u4), .int (I u5), .ref b2])), (b2, iA E 6 h)]) 0 0 (adIn [(a, .inr (0, [.int (I s1), .int (I s2), .int (I s3), .int (I s4), .int (I s5), .ref b])), (b, iA E 6 g), (a2, .inr (0, [.int (I u1), .int (I u2), .int (I u3), .int (I u4), .int (I u5), .ref b2])), (b2, iA E 6 h)]) := by
  refine mk_met (by decide) rfl (Nat.le_of_ble_eq_true rfl) ?_
  intro p e s m args below meth c hx hb hrt hml hts hown hlocks hnm hP hK ls hl
  have hown : s.vm.findClass RX0 = some m.cls := hown
  have hl : lv_has ls 2 [(0, .ref a), (1, .ref a2)] := hl
  have hD : va_D (adIn [(a, .inr (0, [.int (I s1), .int (I s2), .int (I s3), .int (I s4), .int (I s5), .ref b])), (b, iA E 6 g), (a2, .inr (0, [.int (I u1), .int (I u2), .int (I u3), .int (I u4), .int (I u5), .ref b2])), (b2, iA E 6 h)]) [(a, .inr (0, [.int (I s1), .int (I s2), .int (I s3), .int (I s4), .int (I s5), .ref b])), (b, iA E 6 g), (a2, .inr (0, [.int (I u1), .int (I u2), .int (I u3), .int (I u4), .int (I u5), .ref b2])), (b2, iA E 6 h)] := dself hd
  have hS : va_S (adIn [(a, .inr (0, [.int (I s1), .int (I s2), .int (I s3), .int (I s4), .int (I s5), .ref b])), (b, iA E 6 g), (a2, .inr (0, [.int (I u1), .int (I u2), .int (I u3), .int (I u4), .int (I u5), .ref b2])), (b2, iA E 6 h)]) s.heap s.heap [] := va_S.rf
  refine lv_aload_n hx hb dX0_copyFrom_0 rfl (lv_lk hl rfl) ?_
  refine lv_aload_n hx hb dX0_copyFrom_1 rfl (lv_lk hl rfl) ?_
  refine va_get (D := E.1) (ci := 0) hx hb hts inX0 hown hK.1 hP 2 rfl rfl 0 (by decide) (hts _ fl_X0_15) (fun _ h9 => h9) rfl dX0_copyFrom_2 ?_
  refine va_put (ci := 0) (ty := .int) hx hb hts inX0 tyX0 tyX0_ok nmX0 hown hK.1 hP (dm hD rfl) hS 0 rfl rfl 0 (by decide) (hts _ fl_X0_15) (fun _ h9 => h9) rfl (by decide +kernel) rfl rfl (Nat.le_of_ble_eq_true rfl) dX0_copyFrom_5 (fun H locs hP _ hS => ?_)
  have hP : va_P E.1 vwCl [(a, .inr (0, [.int (I u1), .int (I s2), .int (I s3), .int (I s4), .int (I s5), .ref b])), (b, iA E 6 g), (a2, .inr (0, [.int (I u1), .int (I u2), .int (I u3), .int (I u4), .int (I u5), .ref b2])), (b2, iA E 6 h)] H := hP
  refine lv_aload_n hx hb dX0_copyFrom_8 rfl (lv_lk hl rfl) ?_
  refine lv_aload_n hx hb dX0_copyFrom_9 rfl (lv_lk hl rfl) ?_
  refine va_get (D := E.1) (ci := 0) hx hb hts inX0 hown hK.1 hP 2 rfl rfl 1 (by decide) (hts _ fl_X0_19) (fun _ h9 => h9) rfl dX0_copyFrom_10 ?_
  refine va_put (ci := 0) (ty := .int) hx hb hts inX0 tyX0 tyX0_ok nmX0 hown hK.1 hP (dm hD rfl) hS 0 rfl rfl 1 (by decide) (hts _ fl_X0_19) (fun _ h9 => h9) rfl (by decide +kernel) rfl rfl (Nat.le_of_ble_eq_true rfl) dX0_copyFrom_13 (fun H locs hP _ hS => ?_)
  have hP : va_P E.1 vwCl [(a, .inr (0, [.int (I u1), .int (I u2), .int (I s3), .int (I s4), .int (I s5), .ref b])), (b, iA E 6 g), (a2, .inr (0, [.int (I u1), .int (I u2), .int (I u3), .int (I u4), .int (I u5), .ref b2])), (b2, iA E 6 h)] H := hP
  refine lv_aload_n hx hb dX0_copyFrom_16 rfl (lv_lk hl rfl) ?_
  refine lv_aload_n hx hb dX0_copyFrom_17 rfl (lv_lk hl rfl) ?_
  refine va_get (D := E.1) (ci := 0) hx hb hts inX0 hown hK.1 hP 2 rfl rfl 2 (by decide) (hts _ fl_X0_22) (fun _ h9 => h9) rfl dX0_copyFrom_18 ?_
  refine va_put (ci := 0) (ty := .int) hx hb hts inX0 tyX0 tyX0_ok nmX0 hown hK.1 hP (dm hD rfl) hS 0 rfl rfl 2 (by decide) (hts _ fl_X0_22) (fun _ h9 => h9) rfl (by decide +kernel) rfl rfl (Nat.le_of_ble_eq_true rfl) dX0_copyFrom_21 (fun H locs hP _ hS => ?_)
  have hP : va_P E.1 vwCl [(a, .inr (0, [.int (I u1), .int (I u2), .int (I u3), .int (I s4), .int (I s5), .ref b])), (b, iA E 6 g), (a2, .inr (0, [.int (I u1), .int (I u2), .int (I u3), .int (I u4), .int (I u5), .ref b2])), (b2, iA E 6 h)] H := hP
  refine lv_aload_n hx hb dX0_copyFrom_24 rfl (lv_lk hl rfl) ?_
  refine lv_aload_n hx hb dX0_copyFrom_25 rfl (lv_lk hl rfl) ?_
  refine va_get (D := E.1) (ci := 0) hx hb hts inX0 hown hK.1 hP 2 rfl rfl 3 (by decide) (hts _ fl_X0_25) (fun _ h9 => h9) rfl dX0_copyFrom_26 ?_
  refine va_put (ci := 0) (ty := .int) hx hb hts inX0 tyX0 tyX0_ok nmX0 hown hK.1 hP (dm hD rfl) hS 0 rfl rfl 3 (by decide) (hts _ fl_X0_25) (fun _ h9 => h9) rfl (by decide +kernel) rfl rfl (Nat.le_of_ble_eq_true rfl) dX0_copyFrom_29 (fun H locs hP _ hS => ?_)
  have hP : va_P E.1 vwCl [(a, .inr (0, [.int (I u1), .int (I u2), .int (I u3), .int (I u4), .int (I s5), .ref b])), (b, iA E 6 g), (a2, .inr (0, [.int (I u1), .int (I u2), .int (I u3), .int (I u4), .int (I u5), .ref b2])), (b2, iA E 6 h)] H := hP
  refine lv_aload_n hx hb dX0_copyFrom_32 rfl (lv_lk hl rfl) ?_
  refine lv_aload_n hx hb dX0_copyFrom_33 rfl (lv_lk hl rfl) ?_
  refine va_get (D := E.1) (ci := 0) hx hb hts inX0 hown hK.1 hP 2 rfl rfl 4 (by decide) (hts _ fl_X0_28) (fun _ h9 => h9) rfl dX0_copyFrom_34 ?_
  refine va_put (ci := 0) (ty := .int) hx hb hts inX0 tyX0 tyX0_ok nmX0 hown hK.1 hP (dm hD rfl) hS 0 rfl rfl 4 (by decide) (hts _ fl_X0_28) (fun _ h9 => h9) rfl (by decide +kernel) rfl rfl (Nat.le_of_ble_eq_true rfl) dX0_copyFrom_37 (fun H locs hP _ hS => ?_)
  have hP : va_P E.1 vwCl [(a, .inr (0, [.int (I u1), .int (I u2), .int (I u3), .int (I u4), .int (I u5), .ref b])), (b, iA E 6 g), (a2, .inr (0, [.int (I u1), .int (I u2), .int (I u3), .int (I u4), .int (I u5), .ref b2])), (b2, iA E 6 h)] H := hP
  refine lv_aload_n hx hb dX0_copyFrom_40 rfl (lv_lk hl rfl) ?_
  refine va_get (D := E.1) (ci := 0) hx hb hts inX0 hown hK.1 hP 2 rfl rfl 5 (by decide) (hts _ fl_X0_9) (fun _ h9 => h9) rfl dX0_copyFrom_41 ?_
  refine lv_aload_n hx hb dX0_copyFrom_44 rfl (lv_lk hl rfl) ?_
  refine va_get (D := E.1) (ci := 0) hx hb hts inX0 hown hK.1 hP 0 rfl rfl 5 (by decide) (hts _ fl_X0_9) (fun _ h9 => h9) rfl dX0_copyFrom_45 ?_
  refine call_W (va_runSN ⟨hx, hb, hml, hown, hts⟩ (m_X5_copyRow l E b2 b 6 h g (fun h9 => absurd (hd.1 3 1 _ _ rfl rfl h9) (by decide)) (by omega)) ⟨va_cnB 2 hts (gi_all cd_X5_copyRow) rfl rfl rfl (nwK hK 9 rfl) (hts _ it_X5) (by decide +kernel) ⟨Nat.le_of_ble_eq_true rfl, Nat.le_of_ble_eq_true rfl⟩, hts _ st_X5_copyRow, trivial⟩ (pR_S (hP.sub (ws' := [(b2, iA E 6 h), (b, iA E 6 g)]) [3, 1] rfl) hK) rfl rfl hl.1 rfl (lv_room (Nat.le_of_ble_eq_true rfl)) dX0_copyFrom_48 ⟨Nat.le_of_ble_eq_true rfl, Nat.le_of_ble_eq_true rfl⟩) hP (dm hD rfl) hS [3, 1] rfl (by decide) rfl [(a, .inr (0, [.int (I u1), .int (I u2), .int (I u3), .int (I u4), .int (I u5), .ref b])), (b, iA E 6 h), (a2, .inr (0, [.int (I u1), .int (I u2), .int (I u3), .int (I u4), .int (I u5), .ref b2])), (b2, iA E 6 h)] (rfl) rfl (fun H locs hP hS => ?_)
  exact W.vret hx hb hrt (fun t ht hW => ⟨rfl, by rw [ht]; exact hP, hS.F ht⟩) hS.2.2 dX0_copyFrom_51 hlocks
