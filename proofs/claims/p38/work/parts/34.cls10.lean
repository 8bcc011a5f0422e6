/-! the class: the faces that change nothing, the digest; written by cls10.py -/
abbrev fcW (E : Env3) (α : Nat → Nat) (a b t9 : Nat) (n : Int) (st : S) : va_W := (a, .inr (5, [.ref (α 0), .ref b, .int (I n), .ref t9])) :: stW E α st
set_option maxHeartbeats 4000000 in
set_option maxRecDepth 100000 in
theorem m_X5_requireZone_ok (l : Launch) (E : Env3) (z : Int) (hz : 0 ≤ z ∧ z < 6) : Met l yX5_requireZone (Cond.code yX5_requireZone cX5_requireZone 1 none :: ALL) ({ frames := 6, cells := 0, slots := 0, locals := 82 }) (pR [.int (I z)] E []) (qS none) 0 0 (fun _ => False) := by
  refine mk_met (by decide) rfl (Nat.le_of_ble_eq_true rfl) ?_
  intro p e s m args below meth c hx hb hrt hml hts hown hlocks hnm hP hK ls hl
  have hown : s.vm.findClass RX5 = some m.cls := hown
  have hl : lv_has ls 1 [(0, .int (I z))] := hl
  have hS : va_S (fun _ => False) s.heap s.heap [] := va_S.rf
  refine lv_iload_n hx hb dX5_requireZone_0 rfl (lv_lk hl rfl) ?_
  refine iv_if_lt (tgt := 10) hx hb dX5_requireZone_1 (by decide) (by omega) (fun c_1 => by exfalso; omega) (fun c_1 => ?_)
  refine lv_iload_n hx hb dX5_requireZone_4 rfl (lv_lk hl rfl) ?_
  refine iv_bipush hx hb dX5_requireZone_5 (by decide +kernel) ?_
  refine iv_icmp_lt (tgt := 21) hx hb dX5_requireZone_7 (by decide) (by omega) (by omega) (fun c_7 => ?_) (fun c_7 => by exfalso; omega)
  exact W.vret hx hb hrt (fun t ht hW => ⟨rfl, ht⟩) hS.2.2 dX5_requireZone_21 hlocks
set_option maxHeartbeats 4000000 in
set_option maxRecDepth 100000 in
theorem m_X5_requireRiddle_ok (l : Launch) (E : Env3) (r : Int) (hr : 0 ≤ r ∧ r < 36) : Met l yX5_requireRiddle (Cond.code yX5_requireRiddle cX5_requireRiddle 1 none :: ALL) ({ frames := 6, cells := 0, slots := 0, locals := 82 }) (pR [.int (I r)] E []) (qS none) 0 0 (fun _ => False) := by
  refine mk_met (by decide) rfl (Nat.le_of_ble_eq_true rfl) ?_
  intro p e s m args below meth c hx hb hrt hml hts hown hlocks hnm hP hK ls hl
  have hown : s.vm.findClass RX5 = some m.cls := hown
  have hl : lv_has ls 1 [(0, .int (I r))] := hl
  have hS : va_S (fun _ => False) s.heap s.heap [] := va_S.rf
  refine lv_iload_n hx hb dX5_requireRiddle_0 rfl (lv_lk hl rfl) ?_
  refine iv_if_lt (tgt := 10) hx hb dX5_requireRiddle_1 (by decide) (by omega) (fun c_1 => by exfalso; omega) (fun c_1 => ?_)
  refine lv_iload_n hx hb dX5_requireRiddle_4 rfl (lv_lk hl rfl) ?_
  refine iv_bipush hx hb dX5_requireRiddle_5 (by decide +kernel) ?_
  refine iv_icmp_lt (tgt := 21) hx hb dX5_requireRiddle_7 (by decide) (by omega) (by omega) (fun c_7 => ?_) (fun c_7 => by exfalso; omega)
  exact W.vret hx hb hrt (fun t ht hW => ⟨rfl, ht⟩) hS.2.2 dX5_requireRiddle_21 hlocks
set_option maxHeartbeats 4000000 in
set_option maxRecDepth 100000 in
theorem m_X5_requireRange_ok (l : Launch) (E : Env3) (v lo hi9 : Int) (hv : lo ≤ v ∧ v ≤ hi9) (hlo : -2147483648 ≤ lo ∧ lo ≤ 2147483647) (hv : -2147483648 ≤ v ∧ v ≤ 2147483647) (hhi9 : -2147483648 ≤ hi9 ∧ hi9 ≤ 2147483647) : Met l yX5_requireRange (Cond.code yX5_requireRange cX5_requireRange 3 none :: ALL) ({ frames := 6, cells := 0, slots := 0, locals := 82 }) (pR [.int (I v), .int (I lo), .int (I hi9)] E []) (qS none) 0 0 (fun _ => False) := by
  refine mk_met (by decide) rfl (Nat.le_of_ble_eq_true rfl) ?_
  intro p e s m args below meth c hx hb hrt hml hts hown hlocks hnm hP hK ls hl
  have hown : s.vm.findClass RX5 = some m.cls := hown
  have hl : lv_has ls 3 [(0, .int (I v)), (1, .int (I lo)), (2, .int (I hi9))] := hl
  have hS : va_S (fun _ => False) s.heap s.heap [] := va_S.rf
  refine lv_iload_n hx hb dX5_requireRange_0 rfl (lv_lk hl rfl) ?_
  refine lv_iload_n hx hb dX5_requireRange_1 rfl (lv_lk hl rfl) ?_
  refine iv_icmp_lt (tgt := 10) hx hb dX5_requireRange_2 (by decide) (by omega) (by omega) (fun c_2 => by exfalso; omega) (fun c_2 => ?_)
  refine lv_iload_n hx hb dX5_requireRange_5 rfl (lv_lk hl rfl) ?_
  refine lv_iload_n hx hb dX5_requireRange_6 rfl (lv_lk hl rfl) ?_
  refine iv_icmp_le (tgt := 21) hx hb dX5_requireRange_7 (by decide) (by omega) (by omega) (fun c_7 => ?_) (fun c_7 => by exfalso; omega)
  exact W.vret hx hb hrt (fun t ht hW => ⟨rfl, ht⟩) hS.2.2 dX5_requireRange_21 hlocks
set_option maxHeartbeats 4000000 in
set_option maxRecDepth 100000 in
theorem m_X5_parentOf_ok (l : Launch) (E : Env3) (α : Nat → Nat) (a b t9 : Nat) (n : Int) (st : S) (z : Nat) (hz : z < 6) : Met l yX5_parentOf (Cond.code yX5_parentOf cX5_parentOf 2 (some .int) :: ALL) ({ frames := 7, cells := 0, slots := 0, locals := 102 }) (pR [.ref a, .int (I (z : Int))] E (fcW E α a b t9 n st)) (qS (some (.int (I (st (6 + 5 * z)))))) 0 0 (fun _ => False) := by
  refine mk_met (by decide) rfl (Nat.le_of_ble_eq_true rfl) ?_
  intro p e s m args below meth c hx hb hrt hml hts hown hlocks hnm hP hK ls hl
  have hown : s.vm.findClass RX5 = some m.cls := hown
  have hl : lv_has ls 2 [(0, .ref a), (1, .int (I (z : Int)))] := hl
  have hS : va_S (fun _ => False) s.heap s.heap [] := va_S.rf
  refine lv_iload_n hx hb dX5_parentOf_0 rfl (lv_lk hl rfl) ?_
  refine call_S (va_runS ⟨hx, hb, hml, hown, hts⟩ (m_X5_requireZone_ok l E (z : Int) (by omega)) (va_cwS 1 hts (gi_S ml_X5_31 st_X5_requireZone it_X5 cd_X5_requireZone) rfl rfl rfl (by decide +kernel) ⟨Nat.le_of_ble_eq_true rfl, Nat.le_of_ble_eq_true rfl⟩) (pR_S (hP.sub (ws' := []) [] rfl) hK) rfl rfl hl.1 rfl (lv_room (Nat.le_of_ble_eq_true rfl)) dX5_parentOf_1 ⟨Nat.le_of_ble_eq_true rfl, Nat.le_of_ble_eq_true rfl⟩) (fun _ h => h) hS rfl (fun locs hS => ?_)
  refine lv_aload_n hx hb dX5_parentOf_4 rfl (lv_lk hl rfl) ?_
  refine va_get (D := E.1) (ci := 5) hx hb hts inX5 hown hK.1 hP 0 rfl rfl 0 (by decide) (hts _ fl_X5_10) (fun _ h9 => h9) rfl dX5_parentOf_5 ?_
  refine va_get (D := E.1) (ci := 3) hx hb hts inX3 hown hK.1 hP 1 rfl rfl 1 (by decide) (hts _ fl_X5_49) (fun _ h9 => h9) rfl dX5_parentOf_8 ?_
  refine va_get (D := E.1) (ci := 4) hx hb hts inX4 hown hK.1 hP 2 rfl rfl 0 (by decide) (hts _ fl_X5_53) (fun _ h9 => h9) rfl dX5_parentOf_11 ?_
  refine lv_iload_n hx hb dX5_parentOf_14 rfl (lv_lk hl rfl) ?_
  refine call_S (va_runS ⟨hx, hb, hml, hown, hts⟩ (m_X5_read l E (α 2) 6 z (cP st) (by omega) (by omega)) (va_cwS 2 hts (gi_S ml_X5_59 st_X5_read it_X5 cd_X5_read) rfl rfl rfl (by decide +kernel) ⟨Nat.le_of_ble_eq_true rfl, Nat.le_of_ble_eq_true rfl⟩) (pR_S (hP.sub (ws' := [(α 2, iA E 6 (cP st))]) [3] rfl) hK) rfl rfl hl.1 rfl (lv_room (Nat.le_of_ble_eq_true rfl)) dX5_parentOf_15 ⟨Nat.le_of_ble_eq_true rfl, Nat.le_of_ble_eq_true rfl⟩) (fun _ h => h) hS rfl (fun locs hS => ?_)
  exact W.iret hx hb hrt (fun t ht hW => ⟨rfl, ht⟩) hS.2.2 dX5_parentOf_18 hlocks
set_option maxHeartbeats 4000000 in
set_option maxRecDepth 100000 in
theorem m_X5_depthOf_ok (l : Launch) (E : Env3) (α : Nat → Nat) (a b t9 : Nat) (n : Int) (st : S) (T : Int) (hI : IB T st) (z : Nat) (hz : z < 6) : Met l yX5_depthOf (Cond.code yX5_depthOf cX5_depthOf 2 (some .int) :: ALL) ({ frames := 7, cells := 0, slots := 0, locals := 102 }) (pR [.ref a, .int (I (z : Int))] E (fcW E α a b t9 n st)) (qS (some (.int (I (depthF 6 st z))))) 0 0 (fun _ => False) := by
  refine mk_met (by decide) rfl (Nat.le_of_ble_eq_true rfl) ?_
  intro p e s m args below meth c hx hb hrt hml hts hown hlocks hnm hP hK ls hl
  have hown : s.vm.findClass RX5 = some m.cls := hown
  have hl : lv_has ls 2 [(0, .ref a), (1, .int (I (z : Int)))] := hl
  have hS : va_S (fun _ => False) s.heap s.heap [] := va_S.rf
  refine lv_iload_n hx hb dX5_depthOf_0 rfl (lv_lk hl rfl) ?_
  refine call_S (va_runS ⟨hx, hb, hml, hown, hts⟩ (m_X5_requireZone_ok l E (z : Int) (by omega)) (va_cwS 1 hts (gi_S ml_X5_31 st_X5_requireZone it_X5 cd_X5_requireZone) rfl rfl rfl (by decide +kernel) ⟨Nat.le_of_ble_eq_true rfl, Nat.le_of_ble_eq_true rfl⟩) (pR_S (hP.sub (ws' := []) [] rfl) hK) rfl rfl hl.1 rfl (lv_room (Nat.le_of_ble_eq_true rfl)) dX5_depthOf_1 ⟨Nat.le_of_ble_eq_true rfl, Nat.le_of_ble_eq_true rfl⟩) (fun _ h => h) hS rfl (fun locs hS => ?_)
  refine lv_aload_n hx hb dX5_depthOf_4 rfl (lv_lk hl rfl) ?_
  refine va_get (D := E.1) (ci := 5) hx hb hts inX5 hown hK.1 hP 0 rfl rfl 0 (by decide) (hts _ fl_X5_10) (fun _ h9 => h9) rfl dX5_depthOf_5 ?_
  refine va_get (D := E.1) (ci := 3) hx hb hts inX3 hown hK.1 hP 1 rfl rfl 1 (by decide) (hts _ fl_X5_49) (fun _ h9 => h9) rfl dX5_depthOf_8 ?_
  refine lv_iload_n hx hb dX5_depthOf_11 rfl (lv_lk hl rfl) ?_
  refine call_S (va_runV ⟨hx, hb, hml, hown, hts⟩ (m_X4_stepsToRoot l E α st T hI z hz) (cwV 1 hts (gi_V ml_X5_123 im_X4_stepsToRoot sl_X4_stepsToRoot it_X4 cd_X4_stepsToRoot) rfl rfl rfl (by decide +kernel) ⟨Nat.le_of_ble_eq_true rfl, Nat.le_of_ble_eq_true rfl⟩) (pR_V (q0 := 0) (ci := 4) (hP.sub (ws' := [(α 1, .inr (4, [.ref (α 2), .ref (α 3), .ref (α 4)])), (α 2, iA E 6 (cP st)), (α 3, iA E 6 (cRA st)), (α 4, iA E 6 (cRU st))]) [2, 3, 4, 5] rfl) hK rfl rfl) rfl rfl hl.1 rfl (lv_room (Nat.le_of_ble_eq_true rfl)) dX5_depthOf_12 ⟨Nat.le_of_ble_eq_true rfl, Nat.le_of_ble_eq_true rfl⟩) (fun _ h => h) hS rfl (fun locs hS => ?_)
  exact W.iret hx hb hrt (fun t ht hW => ⟨rfl, ht⟩) hS.2.2 dX5_depthOf_15 hlocks
set_option maxHeartbeats 4000000 in
set_option maxRecDepth 100000 in
theorem m_X5_kindOf_ok (l : Launch) (E : Env3) (α : Nat → Nat) (a b t9 : Nat) (n : Int) (st : S) (r : Nat) (hr : r < 36) : Met l yX5_kindOf (Cond.code yX5_kindOf cX5_kindOf 2 (some .int) :: ALL) ({ frames := 7, cells := 0, slots := 0, locals := 102 }) (pR [.ref a, .int (I (r : Int))] E (fcW E α a b t9 n st)) (qS (some (.int (I (st (36 + 6 * r)))))) 0 0 (fun _ => False) := by
  refine mk_met (by decide) rfl (Nat.le_of_ble_eq_true rfl) ?_
  intro p e s m args below meth c hx hb hrt hml hts hown hlocks hnm hP hK ls hl
  have hown : s.vm.findClass RX5 = some m.cls := hown
  have hl : lv_has ls 2 [(0, .ref a), (1, .int (I (r : Int)))] := hl
  have hS : va_S (fun _ => False) s.heap s.heap [] := va_S.rf
  refine lv_iload_n hx hb dX5_kindOf_0 rfl (lv_lk hl rfl) ?_
  refine call_S (va_runS ⟨hx, hb, hml, hown, hts⟩ (m_X5_requireRiddle_ok l E (r : Int) (by omega)) (va_cwS 1 hts (gi_S ml_X5_73 st_X5_requireRiddle it_X5 cd_X5_requireRiddle) rfl rfl rfl (by decide +kernel) ⟨Nat.le_of_ble_eq_true rfl, Nat.le_of_ble_eq_true rfl⟩) (pR_S (hP.sub (ws' := []) [] rfl) hK) rfl rfl hl.1 rfl (lv_room (Nat.le_of_ble_eq_true rfl)) dX5_kindOf_1 ⟨Nat.le_of_ble_eq_true rfl, Nat.le_of_ble_eq_true rfl⟩) (fun _ h => h) hS rfl (fun locs hS => ?_)
  refine lv_aload_n hx hb dX5_kindOf_4 rfl (lv_lk hl rfl) ?_
  refine va_get (D := E.1) (ci := 5) hx hb hts inX5 hown hK.1 hP 0 rfl rfl 0 (by decide) (hts _ fl_X5_10) (fun _ h9 => h9) rfl dX5_kindOf_5 ?_
  refine va_get (D := E.1) (ci := 3) hx hb hts inX3 hown hK.1 hP 1 rfl rfl 2 (by decide) (hts _ fl_X5_85) (fun _ h9 => h9) rfl dX5_kindOf_8 ?_
  refine lv_iload_n hx hb dX5_kindOf_11 rfl (lv_lk hl rfl) ?_
  refine call_S (va_runV ⟨hx, hb, hml, hown, hts⟩ (m_X2_kind l E (α 5) (α 6) (α 7) (α 8) (tK st) (tV st) (tA st) r (by omega)) (cwV 1 hts (gi_V ml_X5_89 im_X2_kind sl_X2_kind it_X2 cd_X2_kind) rfl rfl rfl (by decide +kernel) ⟨Nat.le_of_ble_eq_true rfl, Nat.le_of_ble_eq_true rfl⟩) (pR_V (q0 := 0) (ci := 2) (hP.sub (ws' := (repW E (α 5) (α 6) (α 7) (α 8) (tK st) (tV st) (tA st))) [6, 7, 8, 9] rfl) hK rfl rfl) rfl rfl hl.1 rfl (lv_room (Nat.le_of_ble_eq_true rfl)) dX5_kindOf_12 ⟨Nat.le_of_ble_eq_true rfl, Nat.le_of_ble_eq_true rfl⟩) (fun _ h => h) hS rfl (fun locs hS => ?_)
  exact W.iret hx hb hrt (fun t ht hW => ⟨rfl, ht⟩) hS.2.2 dX5_kindOf_15 hlocks
set_option maxHeartbeats 4000000 in
set_option maxRecDepth 100000 in
theorem m_X5_valueOf_ok (l : Launch) (E : Env3) (α : Nat → Nat) (a b t9 : Nat) (n : Int) (st : S) (r : Nat) (hr : r < 36) : Met l yX5_valueOf (Cond.code yX5_valueOf cX5_valueOf 2 (some .int) :: ALL) ({ frames := 7, cells := 0, slots := 0, locals := 102 }) (pR [.ref a, .int (I (r : Int))] E (fcW E α a b t9 n st)) (qS (some (.int (I (st (36 + 6 * r + 1)))))) 0 0 (fun _ => False) := by
  refine mk_met (by decide) rfl (Nat.le_of_ble_eq_true rfl) ?_
  intro p e s m args below meth c hx hb hrt hml hts hown hlocks hnm hP hK ls hl
  have hown : s.vm.findClass RX5 = some m.cls := hown
  have hl : lv_has ls 2 [(0, .ref a), (1, .int (I (r : Int)))] := hl
  have hS : va_S (fun _ => False) s.heap s.heap [] := va_S.rf
  refine lv_iload_n hx hb dX5_valueOf_0 rfl (lv_lk hl rfl) ?_
  refine call_S (va_runS ⟨hx, hb, hml, hown, hts⟩ (m_X5_requireRiddle_ok l E (r : Int) (by omega)) (va_cwS 1 hts (gi_S ml_X5_73 st_X5_requireRiddle it_X5 cd_X5_requireRiddle) rfl rfl rfl (by decide +kernel) ⟨Nat.le_of_ble_eq_true rfl, Nat.le_of_ble_eq_true rfl⟩) (pR_S (hP.sub (ws' := []) [] rfl) hK) rfl rfl hl.1 rfl (lv_room (Nat.le_of_ble_eq_true rfl)) dX5_valueOf_1 ⟨Nat.le_of_ble_eq_true rfl, Nat.le_of_ble_eq_true rfl⟩) (fun _ h => h) hS rfl (fun locs hS => ?_)
  refine lv_aload_n hx hb dX5_valueOf_4 rfl (lv_lk hl rfl) ?_
  refine va_get (D := E.1) (ci := 5) hx hb hts inX5 hown hK.1 hP 0 rfl rfl 0 (by decide) (hts _ fl_X5_10) (fun _ h9 => h9) rfl dX5_valueOf_5 ?_
  refine va_get (D := E.1) (ci := 3) hx hb hts inX3 hown hK.1 hP 1 rfl rfl 2 (by decide) (hts _ fl_X5_85) (fun _ h9 => h9) rfl dX5_valueOf_8 ?_
  refine lv_iload_n hx hb dX5_valueOf_11 rfl (lv_lk hl rfl) ?_
  refine call_S (va_runV ⟨hx, hb, hml, hown, hts⟩ (m_X2_value l E (α 5) (α 6) (α 7) (α 8) (tK st) (tV st) (tA st) r (by omega)) (cwV 1 hts (gi_V ml_X5_126 im_X2_value sl_X2_value it_X2 cd_X2_value) rfl rfl rfl (by decide +kernel) ⟨Nat.le_of_ble_eq_true rfl, Nat.le_of_ble_eq_true rfl⟩) (pR_V (q0 := 0) (ci := 2) (hP.sub (ws' := (repW E (α 5) (α 6) (α 7) (α 8) (tK st) (tV st) (tA st))) [6, 7, 8, 9] rfl) hK rfl rfl) rfl rfl hl.1 rfl (lv_room (Nat.le_of_ble_eq_true rfl)) dX5_valueOf_12 ⟨Nat.le_of_ble_eq_true rfl, Nat.le_of_ble_eq_true rfl⟩) (fun _ h => h) hS rfl (fun locs hS => ?_)
  exact W.iret hx hb hrt (fun t ht hW => ⟨rfl, ht⟩) hS.2.2 dX5_valueOf_15 hlocks
set_option maxHeartbeats 4000000 in
set_option maxRecDepth 100000 in
theorem m_X5_truthOf_ok (l : Launch) (E : Env3) (α : Nat → Nat) (a b t9 : Nat) (n : Int) (st : S) (T : Int) (hI : IB T st) (hi9 : IT st) (r : Nat) (hr : r < 36) : Met l yX5_truthOf (Cond.code yX5_truthOf cX5_truthOf 2 (some .int) :: ALL) ({ frames := 7, cells := 0, slots := 0, locals := 102 }) (pR [.ref a, .int (I (r : Int))] E (fcW E α a b t9 n st)) (qS (some (.int (I (truthF 7 st r))))) 0 0 (fun _ => False) := by
  refine mk_met (by decide) rfl (Nat.le_of_ble_eq_true rfl) ?_
  intro p e s m args below meth c hx hb hrt hml hts hown hlocks hnm hP hK ls hl
  have hown : s.vm.findClass RX5 = some m.cls := hown
  have hl : lv_has ls 2 [(0, .ref a), (1, .int (I (r : Int)))] := hl
  have hS : va_S (fun _ => False) s.heap s.heap [] := va_S.rf
  refine lv_iload_n hx hb dX5_truthOf_0 rfl (lv_lk hl rfl) ?_
  refine call_S (va_runS ⟨hx, hb, hml, hown, hts⟩ (m_X5_requireRiddle_ok l E (r : Int) (by omega)) (va_cwS 1 hts (gi_S ml_X5_73 st_X5_requireRiddle it_X5 cd_X5_requireRiddle) rfl rfl rfl (by decide +kernel) ⟨Nat.le_of_ble_eq_true rfl, Nat.le_of_ble_eq_true rfl⟩) (pR_S (hP.sub (ws' := []) [] rfl) hK) rfl rfl hl.1 rfl (lv_room (Nat.le_of_ble_eq_true rfl)) dX5_truthOf_1 ⟨Nat.le_of_ble_eq_true rfl, Nat.le_of_ble_eq_true rfl⟩) (fun _ h => h) hS rfl (fun locs hS => ?_)
  refine lv_aload_n hx hb dX5_truthOf_4 rfl (lv_lk hl rfl) ?_
  refine va_get (D := E.1) (ci := 5) hx hb hts inX5 hown hK.1 hP 0 rfl rfl 0 (by decide) (hts _ fl_X5_10) (fun _ h9 => h9) rfl dX5_truthOf_5 ?_
  refine lv_iload_n hx hb dX5_truthOf_8 rfl (lv_lk hl rfl) ?_
  refine call_S (va_runV ⟨hx, hb, hml, hown, hts⟩ (m_X3_trueResult l E α st T hI hi9 r hr) (cwV 1 hts (gi_V ml_X5_129 im_X3_trueResult sl_X3_trueResult it_X3 cd_X3_trueResult) rfl rfl rfl (by decide +kernel) ⟨Nat.le_of_ble_eq_true rfl, Nat.le_of_ble_eq_true rfl⟩) (pR_V (q0 := 0) (ci := 3) (hP.sub (ws' := (stW E α st)) [1, 2, 3, 4, 5, 6, 7, 8, 9, 10, 11, 12, 13, 14, 15, 16] rfl) hK rfl rfl) rfl rfl hl.1 rfl (lv_room (Nat.le_of_ble_eq_true rfl)) dX5_truthOf_9 ⟨Nat.le_of_ble_eq_true rfl, Nat.le_of_ble_eq_true rfl⟩) (fun _ h => h) hS rfl (fun locs hS => ?_)
  exact W.iret hx hb hrt (fun t ht hW => ⟨rfl, ht⟩) hS.2.2 dX5_truthOf_12 hlocks
set_option maxHeartbeats 4000000 in
set_option maxRecDepth 100000 in
theorem m_X5_rememberedOf_ok (l : Launch) (E : Env3) (α : Nat → Nat) (a b t9 : Nat) (n : Int) (st : S) (r : Nat) (hr : r < 36) : Met l yX5_rememberedOf (Cond.code yX5_rememberedOf cX5_rememberedOf 2 (some .int) :: ALL) ({ frames := 7, cells := 0, slots := 0, locals := 102 }) (pR [.ref a, .int (I (r : Int))] E (fcW E α a b t9 n st)) (qS (some (.int (I (st (36 + 6 * r + 3)))))) 0 0 (fun _ => False) := by
  refine mk_met (by decide) rfl (Nat.le_of_ble_eq_true rfl) ?_
  intro p e s m args below meth c hx hb hrt hml hts hown hlocks hnm hP hK ls hl
  have hown : s.vm.findClass RX5 = some m.cls := hown
  have hl : lv_has ls 2 [(0, .ref a), (1, .int (I (r : Int)))] := hl
  have hS : va_S (fun _ => False) s.heap s.heap [] := va_S.rf
  refine lv_iload_n hx hb dX5_rememberedOf_0 rfl (lv_lk hl rfl) ?_
  refine call_S (va_runS ⟨hx, hb, hml, hown, hts⟩ (m_X5_requireRiddle_ok l E (r : Int) (by omega)) (va_cwS 1 hts (gi_S ml_X5_73 st_X5_requireRiddle it_X5 cd_X5_requireRiddle) rfl rfl rfl (by decide +kernel) ⟨Nat.le_of_ble_eq_true rfl, Nat.le_of_ble_eq_true rfl⟩) (pR_S (hP.sub (ws' := []) [] rfl) hK) rfl rfl hl.1 rfl (lv_room (Nat.le_of_ble_eq_true rfl)) dX5_rememberedOf_1 ⟨Nat.le_of_ble_eq_true rfl, Nat.le_of_ble_eq_true rfl⟩) (fun _ h => h) hS rfl (fun locs hS => ?_)
  refine lv_aload_n hx hb dX5_rememberedOf_4 rfl (lv_lk hl rfl) ?_
  refine va_get (D := E.1) (ci := 5) hx hb hts inX5 hown hK.1 hP 0 rfl rfl 0 (by decide) (hts _ fl_X5_10) (fun _ h9 => h9) rfl dX5_rememberedOf_5 ?_
  refine va_get (D := E.1) (ci := 3) hx hb hts inX3 hown hK.1 hP 1 rfl rfl 3 (by decide) (hts _ fl_X5_103) (fun _ h9 => h9) rfl dX5_rememberedOf_8 ?_
  refine lv_iload_n hx hb dX5_rememberedOf_11 rfl (lv_lk hl rfl) ?_
  refine call_S (va_runV ⟨hx, hb, hml, hown, hts⟩ (m_X2_kind l E (α 9) (α 10) (α 11) (α 12) (mK st) (mV st) (mE st) r (by omega)) (cwV 1 hts (gi_V ml_X5_89 im_X2_kind sl_X2_kind it_X2 cd_X2_kind) rfl rfl rfl (by decide +kernel) ⟨Nat.le_of_ble_eq_true rfl, Nat.le_of_ble_eq_true rfl⟩) (pR_V (q0 := 0) (ci := 2) (hP.sub (ws' := (repW E (α 9) (α 10) (α 11) (α 12) (mK st) (mV st) (mE st))) [10, 11, 12, 13] rfl) hK rfl rfl) rfl rfl hl.1 rfl (lv_room (Nat.le_of_ble_eq_true rfl)) dX5_rememberedOf_12 ⟨Nat.le_of_ble_eq_true rfl, Nat.le_of_ble_eq_true rfl⟩) (fun _ h => h) hS rfl (fun locs hS => ?_)
  exact W.iret hx hb hrt (fun t ht hW => ⟨rfl, ht⟩) hS.2.2 dX5_rememberedOf_15 hlocks
set_option maxHeartbeats 4000000 in
set_option maxRecDepth 100000 in
theorem m_X5_ticksLeftOf_ok (l : Launch) (E : Env3) (α : Nat → Nat) (a b t9 : Nat) (n : Int) (st : S) (T : Int) (hI : IB T st) (r : Nat) (hr : r < 36) : Met l yX5_ticksLeftOf (Cond.code yX5_ticksLeftOf cX5_ticksLeftOf 2 (some .int) :: ALL) ({ frames := 7, cells := 0, slots := 0, locals := 102 }) (pR [.ref a, .int (I (r : Int))] E (fcW E α a b t9 n st)) (qS (some (.int (I (left st (st (36 + 6 * r + 5))))))) 0 0 (fun _ => False) := by
  refine mk_met (by decide) rfl (Nat.le_of_ble_eq_true rfl) ?_
  intro p e s m args below meth c hx hb hrt hml hts hown hlocks hnm hP hK ls hl
  have hown : s.vm.findClass RX5 = some m.cls := hown
  have hl : lv_has ls 2 [(0, .ref a), (1, .int (I (r : Int)))] := hl
  have hS : va_S (fun _ => False) s.heap s.heap [] := va_S.rf
  have t3 := (hI.2.2.2 r hr).2
  unfold triM at t3
  have z8 := hI.1
  refine lv_iload_n hx hb dX5_ticksLeftOf_0 rfl (lv_lk hl rfl) ?_
  refine call_S (va_runS ⟨hx, hb, hml, hown, hts⟩ (m_X5_requireRiddle_ok l E (r : Int) (by omega)) (va_cwS 1 hts (gi_S ml_X5_73 st_X5_requireRiddle it_X5 cd_X5_requireRiddle) rfl rfl rfl (by decide +kernel) ⟨Nat.le_of_ble_eq_true rfl, Nat.le_of_ble_eq_true rfl⟩) (pR_S (hP.sub (ws' := []) [] rfl) hK) rfl rfl hl.1 rfl (lv_room (Nat.le_of_ble_eq_true rfl)) dX5_ticksLeftOf_1 ⟨Nat.le_of_ble_eq_true rfl, Nat.le_of_ble_eq_true rfl⟩) (fun _ h => h) hS rfl (fun locs hS => ?_)
  refine lv_aload_n hx hb dX5_ticksLeftOf_4 rfl (lv_lk hl rfl) ?_
  refine va_get (D := E.1) (ci := 5) hx hb hts inX5 hown hK.1 hP 0 rfl rfl 0 (by decide) (hts _ fl_X5_10) (fun _ h9 => h9) rfl dX5_ticksLeftOf_5 ?_
  refine lv_aload_n hx hb dX5_ticksLeftOf_8 rfl (lv_lk hl rfl) ?_
  refine va_get (D := E.1) (ci := 5) hx hb hts inX5 hown hK.1 hP 0 rfl rfl 0 (by decide) (hts _ fl_X5_10) (fun _ h9 => h9) rfl dX5_ticksLeftOf_9 ?_
  refine va_get (D := E.1) (ci := 3) hx hb hts inX3 hown hK.1 hP 1 rfl rfl 3 (by decide) (hts _ fl_X5_103) (fun _ h9 => h9) rfl dX5_ticksLeftOf_12 ?_
  refine lv_iload_n hx hb dX5_ticksLeftOf_15 rfl (lv_lk hl rfl) ?_
  refine call_S (va_runV ⟨hx, hb, hml, hown, hts⟩ (m_X2_ticks l E (α 9) (α 10) (α 11) (α 12) (mK st) (mV st) (mE st) r (by omega)) (cwV 1 hts (gi_V ml_X5_132 im_X2_ticks sl_X2_ticks it_X2 cd_X2_ticks) rfl rfl rfl (by decide +kernel) ⟨Nat.le_of_ble_eq_true rfl, Nat.le_of_ble_eq_true rfl⟩) (pR_V (q0 := 0) (ci := 2) (hP.sub (ws' := (repW E (α 9) (α 10) (α 11) (α 12) (mK st) (mV st) (mE st))) [10, 11, 12, 13] rfl) hK rfl rfl) rfl rfl hl.1 rfl (lv_room (Nat.le_of_ble_eq_true rfl)) dX5_ticksLeftOf_16 ⟨Nat.le_of_ble_eq_true rfl, Nat.le_of_ble_eq_true rfl⟩) (fun _ h => h) hS rfl (fun locs hS => ?_)
  refine iv_eq (st (36 + 6 * r + 5)) (rfl) ?_
  refine call_S (va_runV ⟨hx, hb, hml, hown, hts⟩ (m_X3_ticksTo l E α st _ (by omega)) (cwV 1 hts (gi_V ml_X5_135 im_X3_ticksTo sl_X3_ticksTo it_X3 cd_X3_ticksTo) rfl rfl rfl (by decide +kernel) ⟨Nat.le_of_ble_eq_true rfl, Nat.le_of_ble_eq_true rfl⟩) (pR_V (q0 := 0) (ci := 3) (hP.sub (ws' := (stW E α st)) [1, 2, 3, 4, 5, 6, 7, 8, 9, 10, 11, 12, 13, 14, 15, 16] rfl) hK rfl rfl) rfl rfl hl.1 rfl (lv_room (Nat.le_of_ble_eq_true rfl)) dX5_ticksLeftOf_19 ⟨Nat.le_of_ble_eq_true rfl, Nat.le_of_ble_eq_true rfl⟩) (fun _ h => h) hS rfl (fun locs hS => ?_)
  exact W.iret hx hb hrt (fun t ht hW => ⟨rfl, ht⟩) hS.2.2 dX5_ticksLeftOf_22 hlocks
set_option maxHeartbeats 4000000 in
set_option maxRecDepth 100000 in
theorem m_X5_referralLeft_ok (l : Launch) (E : Env3) (α : Nat → Nat) (a b t9 : Nat) (n : Int) (st : S) (T : Int) (hI : IB T st) (z : Nat) (hz : z < 6) : Met l yX5_referralLeft (Cond.code yX5_referralLeft cX5_referralLeft 2 (some .int) :: ALL) ({ frames := 7, cells := 0, slots := 0, locals := 102 }) (pR [.ref a, .int (I (z : Int))] E (fcW E α a b t9 n st)) (qS (some (.int (I (left st (st (6 + 5 * z + 3))))))) 0 0 (fun _ => False) := by
  refine mk_met (by decide) rfl (Nat.le_of_ble_eq_true rfl) ?_
  intro p e s m args below meth c hx hb hrt hml hts hown hlocks hnm hP hK ls hl
  have hown : s.vm.findClass RX5 = some m.cls := hown
  have hl : lv_has ls 2 [(0, .ref a), (1, .int (I (z : Int)))] := hl
  have hS : va_S (fun _ => False) s.heap s.heap [] := va_S.rf
  have z9 := (hI.2.2.1 z hz).2.2.2.2.2
  have z8 := hI.1
  refine lv_iload_n hx hb dX5_referralLeft_0 rfl (lv_lk hl rfl) ?_
  refine call_S (va_runS ⟨hx, hb, hml, hown, hts⟩ (m_X5_requireZone_ok l E (z : Int) (by omega)) (va_cwS 1 hts (gi_S ml_X5_31 st_X5_requireZone it_X5 cd_X5_requireZone) rfl rfl rfl (by decide +kernel) ⟨Nat.le_of_ble_eq_true rfl, Nat.le_of_ble_eq_true rfl⟩) (pR_S (hP.sub (ws' := []) [] rfl) hK) rfl rfl hl.1 rfl (lv_room (Nat.le_of_ble_eq_true rfl)) dX5_referralLeft_1 ⟨Nat.le_of_ble_eq_true rfl, Nat.le_of_ble_eq_true rfl⟩) (fun _ h => h) hS rfl (fun locs hS => ?_)
  refine lv_aload_n hx hb dX5_referralLeft_4 rfl (lv_lk hl rfl) ?_
  refine va_get (D := E.1) (ci := 5) hx hb hts inX5 hown hK.1 hP 0 rfl rfl 0 (by decide) (hts _ fl_X5_10) (fun _ h9 => h9) rfl dX5_referralLeft_5 ?_
  refine lv_aload_n hx hb dX5_referralLeft_8 rfl (lv_lk hl rfl) ?_
  refine va_get (D := E.1) (ci := 5) hx hb hts inX5 hown hK.1 hP 0 rfl rfl 0 (by decide) (hts _ fl_X5_10) (fun _ h9 => h9) rfl dX5_referralLeft_9 ?_
  refine va_get (D := E.1) (ci := 3) hx hb hts inX3 hown hK.1 hP 1 rfl rfl 4 (by decide) (hts _ fl_X5_138) (fun _ h9 => h9) rfl dX5_referralLeft_12 ?_
  refine lv_iload_n hx hb dX5_referralLeft_15 rfl (lv_lk hl rfl) ?_
  refine call_S (va_runS ⟨hx, hb, hml, hown, hts⟩ (m_X5_read l E (α 13) 6 z (cE st) (by omega) (by omega)) (va_cwS 2 hts (gi_S ml_X5_59 st_X5_read it_X5 cd_X5_read) rfl rfl rfl (by decide +kernel) ⟨Nat.le_of_ble_eq_true rfl, Nat.le_of_ble_eq_true rfl⟩) (pR_S (hP.sub (ws' := [(α 13, iA E 6 (cE st))]) [14] rfl) hK) rfl rfl hl.1 rfl (lv_room (Nat.le_of_ble_eq_true rfl)) dX5_referralLeft_16 ⟨Nat.le_of_ble_eq_true rfl, Nat.le_of_ble_eq_true rfl⟩) (fun _ h => h) hS rfl (fun locs hS => ?_)
  refine iv_eq (st (6 + 5 * z + 3)) (rfl) ?_
  refine call_S (va_runV ⟨hx, hb, hml, hown, hts⟩ (m_X3_ticksTo l E α st _ (by omega)) (cwV 1 hts (gi_V ml_X5_135 im_X3_ticksTo sl_X3_ticksTo it_X3 cd_X3_ticksTo) rfl rfl rfl (by decide +kernel) ⟨Nat.le_of_ble_eq_true rfl, Nat.le_of_ble_eq_true rfl⟩) (pR_V (q0 := 0) (ci := 3) (hP.sub (ws' := (stW E α st)) [1, 2, 3, 4, 5, 6, 7, 8, 9, 10, 11, 12, 13, 14, 15, 16] rfl) hK rfl rfl) rfl rfl hl.1 rfl (lv_room (Nat.le_of_ble_eq_true rfl)) dX5_referralLeft_19 ⟨Nat.le_of_ble_eq_true rfl, Nat.le_of_ble_eq_true rfl⟩) (fun _ h => h) hS rfl (fun locs hS => ?_)
  exact W.iret hx hb hrt (fun t ht hW => ⟨rfl, ht⟩) hS.2.2 dX5_referralLeft_22 hlocks
set_option maxHeartbeats 4000000 in
set_option maxRecDepth 100000 in
theorem m_X5_remembered (l : Launch) (E : Env3) (α : Nat → Nat) (a b t9 : Nat) (n : Int) (st : S) (T : Int) (hI : IB T st) : Met l yX5_remembered (Cond.code yX5_remembered cX5_remembered 1 (some .int) :: ALL) ({ frames := 3, cells := 0, slots := 0, locals := 64 }) (pR [.ref a] E (fcW E α a b t9 n st)) (qS (some (.int (I (memo st))))) 0 0 (fun _ => False) := by
  refine mk_met (by decide) rfl (Nat.le_of_ble_eq_true rfl) ?_
  intro p e s m args below meth c hx hb hrt hml hts hown hlocks hnm hP hK ls hl
  have hown : s.vm.findClass RX5 = some m.cls := hown
  have hl : lv_has ls 1 [(0, .ref a)] := hl
  have hS : va_S (fun _ => False) s.heap s.heap [] := va_S.rf
  refine lv_aload_n hx hb dX5_remembered_0 rfl (lv_lk hl rfl) ?_
  refine va_get (D := E.1) (ci := 5) hx hb hts inX5 hown hK.1 hP 0 rfl rfl 0 (by decide) (hts _ fl_X5_10) (fun _ h9 => h9) rfl dX5_remembered_1 ?_
  refine call_S (va_runV ⟨hx, hb, hml, hown, hts⟩ (m_X3_countMemory l E α st T hI) (cwV 0 hts (gi_V ml_X5_141 im_X3_countMemory sl_X3_countMemory it_X3 cd_X3_countMemory) rfl rfl rfl (by decide +kernel) ⟨Nat.le_of_ble_eq_true rfl, Nat.le_of_ble_eq_true rfl⟩) (pR_V (q0 := 0) (ci := 3) (hP.sub (ws' := (stW E α st)) [1, 2, 3, 4, 5, 6, 7, 8, 9, 10, 11, 12, 13, 14, 15, 16] rfl) hK rfl rfl) rfl rfl hl.1 rfl (lv_room (Nat.le_of_ble_eq_true rfl)) dX5_remembered_4 ⟨Nat.le_of_ble_eq_true rfl, Nat.le_of_ble_eq_true rfl⟩) (fun _ h => h) hS rfl (fun locs hS => ?_)
  exact W.iret hx hb hrt (fun t ht hW => ⟨rfl, ht⟩) hS.2.2 dX5_remembered_7 hlocks
set_option maxHeartbeats 4000000 in
set_option maxRecDepth 100000 in
theorem m_X5_rememberedByAccount (l : Launch) (E : Env3) (α : Nat → Nat) (a b t9 : Nat) (n : Int) (st : S)  : Met l yX5_rememberedByAccount (Cond.code yX5_rememberedByAccount cX5_rememberedByAccount 1 (some .int) :: ALL) ({ frames := 0, cells := 0, slots := 0, locals := 0 }) (pR [.ref a] E (fcW E α a b t9 n st)) (qS (some (.int (I (st 4 - st 5))))) 0 0 (fun _ => False) := by
  refine mk_met (by decide) rfl (Nat.le_of_ble_eq_true rfl) ?_
  intro p e s m args below meth c hx hb hrt hml hts hown hlocks hnm hP hK ls hl
  have hown : s.vm.findClass RX5 = some m.cls := hown
  have hl : lv_has ls 1 [(0, .ref a)] := hl
  have hS : va_S (fun _ => False) s.heap s.heap [] := va_S.rf
  refine lv_aload_n hx hb dX5_rememberedByAccount_0 rfl (lv_lk hl rfl) ?_
  refine va_get (D := E.1) (ci := 5) hx hb hts inX5 hown hK.1 hP 0 rfl rfl 0 (by decide) (hts _ fl_X5_10) (fun _ h9 => h9) rfl dX5_rememberedByAccount_1 ?_
  refine va_get (D := E.1) (ci := 3) hx hb hts inX3 hown hK.1 hP 1 rfl rfl 5 (by decide) (hts _ fl_X5_145) (fun _ h9 => h9) rfl dX5_rememberedByAccount_4 ?_
  refine va_get (D := E.1) (ci := 0) hx hb hts inX0 hown hK.1 hP 15 rfl rfl 3 (by decide) (hts _ fl_X5_149) (fun _ h9 => h9) rfl dX5_rememberedByAccount_7 ?_
  refine lv_aload_n hx hb dX5_rememberedByAccount_10 rfl (lv_lk hl rfl) ?_
  refine va_get (D := E.1) (ci := 5) hx hb hts inX5 hown hK.1 hP 0 rfl rfl 0 (by decide) (hts _ fl_X5_10) (fun _ h9 => h9) rfl dX5_rememberedByAccount_11 ?_
  refine va_get (D := E.1) (ci := 3) hx hb hts inX3 hown hK.1 hP 1 rfl rfl 5 (by decide) (hts _ fl_X5_145) (fun _ h9 => h9) rfl dX5_rememberedByAccount_14 ?_
  refine va_get (D := E.1) (ci := 0) hx hb hts inX0 hown hK.1 hP 15 rfl rfl 4 (by decide) (hts _ fl_X5_154) (fun _ h9 => h9) rfl dX5_rememberedByAccount_17 ?_
  refine iv_isub hx hb dX5_rememberedByAccount_20 ?_
  exact W.iret hx hb hrt (fun t ht hW => ⟨rfl, ht⟩) hS.2.2 dX5_rememberedByAccount_21 hlocks
set_option maxHeartbeats 4000000 in
set_option maxRecDepth 100000 in
theorem m_X5_ticksUntilForgetting (l : Launch) (E : Env3) (α : Nat → Nat) (a b t9 : Nat) (n : Int) (st : S) (T : Int) (hI : IB T st) (hi9 : IT st) : Met l yX5_ticksUntilForgetting (Cond.code yX5_ticksUntilForgetting cX5_ticksUntilForgetting 1 (some .int) :: ALL) ({ frames := 3, cells := 0, slots := 0, locals := 64 }) (pR [.ref a] E (fcW E α a b t9 n st)) (qS (some (.int (I (untl st))))) 0 0 (fun _ => False) := by
  refine mk_met (by decide) rfl (Nat.le_of_ble_eq_true rfl) ?_
  intro p e s m args below meth c hx hb hrt hml hts hown hlocks hnm hP hK ls hl
  have hown : s.vm.findClass RX5 = some m.cls := hown
  have hl : lv_has ls 1 [(0, .ref a)] := hl
  have hS : va_S (fun _ => False) s.heap s.heap [] := va_S.rf
  refine lv_aload_n hx hb dX5_ticksUntilForgetting_0 rfl (lv_lk hl rfl) ?_
  refine va_get (D := E.1) (ci := 5) hx hb hts inX5 hown hK.1 hP 0 rfl rfl 0 (by decide) (hts _ fl_X5_10) (fun _ h9 => h9) rfl dX5_ticksUntilForgetting_1 ?_
  refine lv_aload_n hx hb dX5_ticksUntilForgetting_4 rfl (lv_lk hl rfl) ?_
  refine va_get (D := E.1) (ci := 5) hx hb hts inX5 hown hK.1 hP 0 rfl rfl 0 (by decide) (hts _ fl_X5_10) (fun _ h9 => h9) rfl dX5_ticksUntilForgetting_5 ?_
  refine call_S (va_runV ⟨hx, hb, hml, hown, hts⟩ (m_X3_nextEnd l E α st T hI) (cwV 0 hts (gi_V ml_X5_157 im_X3_nextEnd sl_X3_nextEnd it_X3 cd_X3_nextEnd) rfl rfl rfl (by decide +kernel) ⟨Nat.le_of_ble_eq_true rfl, Nat.le_of_ble_eq_true rfl⟩) (pR_V (q0 := 0) (ci := 3) (hP.sub (ws' := (stW E α st)) [1, 2, 3, 4, 5, 6, 7, 8, 9, 10, 11, 12, 13, 14, 15, 16] rfl) hK rfl rfl) rfl rfl hl.1 rfl (lv_room (Nat.le_of_ble_eq_true rfl)) dX5_ticksUntilForgetting_8 ⟨Nat.le_of_ble_eq_true rfl, Nat.le_of_ble_eq_true rfl⟩) (fun _ h => h) hS rfl (fun locs hS => ?_)
  refine call_S (va_runV ⟨hx, hb, hml, hown, hts⟩ (m_X3_ticksTo l E α st _ (nxt_rngR hI 36 (Nat.le_refl _))) (cwV 1 hts (gi_V ml_X5_135 im_X3_ticksTo sl_X3_ticksTo it_X3 cd_X3_ticksTo) rfl rfl rfl (by decide +kernel) ⟨Nat.le_of_ble_eq_true rfl, Nat.le_of_ble_eq_true rfl⟩) (pR_V (q0 := 0) (ci := 3) (hP.sub (ws' := (stW E α st)) [1, 2, 3, 4, 5, 6, 7, 8, 9, 10, 11, 12, 13, 14, 15, 16] rfl) hK rfl rfl) rfl rfl hl.1 rfl (lv_room (Nat.le_of_ble_eq_true rfl)) dX5_ticksUntilForgetting_11 ⟨Nat.le_of_ble_eq_true rfl, Nat.le_of_ble_eq_true rfl⟩) (fun _ h => h) hS rfl (fun locs hS => ?_)
  refine iv_eq (untl st) (left_nxt hI hi9) ?_
  exact W.iret hx hb hrt (fun t ht hW => ⟨rfl, ht⟩) hS.2.2 dX5_ticksUntilForgetting_14 hlocks
set_option maxHeartbeats 4000000 in
set_option maxRecDepth 100000 in
theorem m_X5_isOutOfDate_ok (l : Launch) (E : Env3) (α : Nat → Nat) (a b t9 : Nat) (n : Int) (st : S) (T : Int) (hI : IB T st) (r : Nat) (hr : r < 36) : Met l yX5_isOutOfDate (Cond.code yX5_isOutOfDate cX5_isOutOfDate 2 (some .boolean) :: ALL) ({ frames := 7, cells := 0, slots := 0, locals := 102 }) (pR [.ref a, .int (I (r : Int))] E (fcW E α a b t9 n st)) (qS (some (.int (I (oldI st r))))) 0 0 (fun _ => False) := by
  refine mk_met (by decide) rfl (Nat.le_of_ble_eq_true rfl) ?_
  intro p e s m args below meth c hx hb hrt hml hts hown hlocks hnm hP hK ls hl
  have hown : s.vm.findClass RX5 = some m.cls := hown
  have hl : lv_has ls 2 [(0, .ref a), (1, .int (I (r : Int)))] := hl
  have hS : va_S (fun _ => False) s.heap s.heap [] := va_S.rf
  refine lv_iload_n hx hb dX5_isOutOfDate_0 rfl (lv_lk hl rfl) ?_
  refine call_S (va_runS ⟨hx, hb, hml, hown, hts⟩ (m_X5_requireRiddle_ok l E (r : Int) (by omega)) (va_cwS 1 hts (gi_S ml_X5_73 st_X5_requireRiddle it_X5 cd_X5_requireRiddle) rfl rfl rfl (by decide +kernel) ⟨Nat.le_of_ble_eq_true rfl, Nat.le_of_ble_eq_true rfl⟩) (pR_S (hP.sub (ws' := []) [] rfl) hK) rfl rfl hl.1 rfl (lv_room (Nat.le_of_ble_eq_true rfl)) dX5_isOutOfDate_1 ⟨Nat.le_of_ble_eq_true rfl, Nat.le_of_ble_eq_true rfl⟩) (fun _ h => h) hS rfl (fun locs hS => ?_)
  refine lv_aload_n hx hb dX5_isOutOfDate_4 rfl (lv_lk hl rfl) ?_
  refine va_get (D := E.1) (ci := 5) hx hb hts inX5 hown hK.1 hP 0 rfl rfl 0 (by decide) (hts _ fl_X5_10) (fun _ h9 => h9) rfl dX5_isOutOfDate_5 ?_
  refine lv_iload_n hx hb dX5_isOutOfDate_8 rfl (lv_lk hl rfl) ?_
  refine call_S (va_runV ⟨hx, hb, hml, hown, hts⟩ (m_X3_differsFromTruth l E α st T hI r hr) (cwV 1 hts (gi_V ml_X5_160 im_X3_differsFromTruth sl_X3_differsFromTruth it_X3 cd_X3_differsFromTruth) rfl rfl rfl (by decide +kernel) ⟨Nat.le_of_ble_eq_true rfl, Nat.le_of_ble_eq_true rfl⟩) (pR_V (q0 := 0) (ci := 3) (hP.sub (ws' := (stW E α st)) [1, 2, 3, 4, 5, 6, 7, 8, 9, 10, 11, 12, 13, 14, 15, 16] rfl) hK rfl rfl) rfl rfl hl.1 rfl (lv_room (Nat.le_of_ble_eq_true rfl)) dX5_isOutOfDate_9 ⟨Nat.le_of_ble_eq_true rfl, Nat.le_of_ble_eq_true rfl⟩) (fun _ h => h) hS rfl (fun locs hS => ?_)
  exact W.zret (ty := .boolean) hx hb hrt old_nar (fun t ht hW => ⟨rfl, ht⟩) hS.2.2 dX5_isOutOfDate_12 hlocks
set_option maxHeartbeats 4000000 in
set_option maxRecDepth 100000 in
theorem m_X5_time (l : Launch) (E : Env3) (α : Nat → Nat) (a b t9 : Nat) (n : Int) (st : S)  : Met l yX5_time (Cond.code yX5_time cX5_time 1 (some .int) :: ALL) ({ frames := 0, cells := 0, slots := 0, locals := 0 }) (pR [.ref a] E (fcW E α a b t9 n st)) (qS (some (.int (I (st 0))))) 0 0 (fun _ => False) := by
  refine mk_met (by decide) rfl (Nat.le_of_ble_eq_true rfl) ?_
  intro p e s m args below meth c hx hb hrt hml hts hown hlocks hnm hP hK ls hl
  have hown : s.vm.findClass RX5 = some m.cls := hown
  have hl : lv_has ls 1 [(0, .ref a)] := hl
  have hS : va_S (fun _ => False) s.heap s.heap [] := va_S.rf
  refine lv_aload_n hx hb dX5_time_0 rfl (lv_lk hl rfl) ?_
  refine va_get (D := E.1) (ci := 5) hx hb hts inX5 hown hK.1 hP 0 rfl rfl 0 (by decide) (hts _ fl_X5_10) (fun _ h9 => h9) rfl dX5_time_1 ?_
  refine va_get (D := E.1) (ci := 3) hx hb hts inX3 hown hK.1 hP 1 rfl rfl 0 (by decide) (hts _ fl_X5_120) (fun _ h9 => h9) rfl dX5_time_4 ?_
  exact W.iret hx hb hrt (fun t ht hW => ⟨rfl, ht⟩) hS.2.2 dX5_time_7 hlocks
set_option maxHeartbeats 4000000 in
set_option maxRecDepth 100000 in
theorem m_X5_solved (l : Launch) (E : Env3) (α : Nat → Nat) (a b t9 : Nat) (n : Int) (st : S)  : Met l yX5_solved (Cond.code yX5_solved cX5_solved 1 (some .int) :: ALL) ({ frames := 0, cells := 0, slots := 0, locals := 0 }) (pR [.ref a] E (fcW E α a b t9 n st)) (qS (some (.int (I (st 1))))) 0 0 (fun _ => False) := by
  refine mk_met (by decide) rfl (Nat.le_of_ble_eq_true rfl) ?_
  intro p e s m args below meth c hx hb hrt hml hts hown hlocks hnm hP hK ls hl
  have hown : s.vm.findClass RX5 = some m.cls := hown
  have hl : lv_has ls 1 [(0, .ref a)] := hl
  have hS : va_S (fun _ => False) s.heap s.heap [] := va_S.rf
  refine lv_aload_n hx hb dX5_solved_0 rfl (lv_lk hl rfl) ?_
  refine va_get (D := E.1) (ci := 5) hx hb hts inX5 hown hK.1 hP 0 rfl rfl 0 (by decide) (hts _ fl_X5_10) (fun _ h9 => h9) rfl dX5_solved_1 ?_
  refine va_get (D := E.1) (ci := 3) hx hb hts inX3 hown hK.1 hP 1 rfl rfl 5 (by decide) (hts _ fl_X5_145) (fun _ h9 => h9) rfl dX5_solved_4 ?_
  refine va_get (D := E.1) (ci := 0) hx hb hts inX0 hown hK.1 hP 15 rfl rfl 0 (by decide) (hts _ fl_X5_163) (fun _ h9 => h9) rfl dX5_solved_7 ?_
  exact W.iret hx hb hrt (fun t ht hW => ⟨rfl, ht⟩) hS.2.2 dX5_solved_10 hlocks
set_option maxHeartbeats 4000000 in
set_option maxRecDepth 100000 in
theorem m_X5_questions (l : Launch) (E : Env3) (α : Nat → Nat) (a b t9 : Nat) (n : Int) (st : S)  : Met l yX5_questions (Cond.code yX5_questions cX5_questions 1 (some .int) :: ALL) ({ frames := 0, cells := 0, slots := 0, locals := 0 }) (pR [.ref a] E (fcW E α a b t9 n st)) (qS (some (.int (I (st 2))))) 0 0 (fun _ => False) := by
  refine mk_met (by decide) rfl (Nat.le_of_ble_eq_true rfl) ?_
  intro p e s m args below meth c hx hb hrt hml hts hown hlocks hnm hP hK ls hl
  have hown : s.vm.findClass RX5 = some m.cls := hown
  have hl : lv_has ls 1 [(0, .ref a)] := hl
  have hS : va_S (fun _ => False) s.heap s.heap [] := va_S.rf
  refine lv_aload_n hx hb dX5_questions_0 rfl (lv_lk hl rfl) ?_
  refine va_get (D := E.1) (ci := 5) hx hb hts inX5 hown hK.1 hP 0 rfl rfl 0 (by decide) (hts _ fl_X5_10) (fun _ h9 => h9) rfl dX5_questions_1 ?_
  refine va_get (D := E.1) (ci := 3) hx hb hts inX3 hown hK.1 hP 1 rfl rfl 5 (by decide) (hts _ fl_X5_145) (fun _ h9 => h9) rfl dX5_questions_4 ?_
  refine va_get (D := E.1) (ci := 0) hx hb hts inX0 hown hK.1 hP 15 rfl rfl 1 (by decide) (hts _ fl_X5_166) (fun _ h9 => h9) rfl dX5_questions_7 ?_
  exact W.iret hx hb hrt (fun t ht hW => ⟨rfl, ht⟩) hS.2.2 dX5_questions_10 hlocks
set_option maxHeartbeats 4000000 in
set_option maxRecDepth 100000 in
theorem m_X5_hits (l : Launch) (E : Env3) (α : Nat → Nat) (a b t9 : Nat) (n : Int) (st : S)  : Met l yX5_hits (Cond.code yX5_hits cX5_hits 1 (some .int) :: ALL) ({ frames := 0, cells := 0, slots := 0, locals := 0 }) (pR [.ref a] E (fcW E α a b t9 n st)) (qS (some (.int (I (st 3))))) 0 0 (fun _ => False) := by
  refine mk_met (by decide) rfl (Nat.le_of_ble_eq_true rfl) ?_
  intro p e s m args below meth c hx hb hrt hml hts hown hlocks hnm hP hK ls hl
  have hown : s.vm.findClass RX5 = some m.cls := hown
  have hl : lv_has ls 1 [(0, .ref a)] := hl
  have hS : va_S (fun _ => False) s.heap s.heap [] := va_S.rf
  refine lv_aload_n hx hb dX5_hits_0 rfl (lv_lk hl rfl) ?_
  refine va_get (D := E.1) (ci := 5) hx hb hts inX5 hown hK.1 hP 0 rfl rfl 0 (by decide) (hts _ fl_X5_10) (fun _ h9 => h9) rfl dX5_hits_1 ?_
  refine va_get (D := E.1) (ci := 3) hx hb hts inX3 hown hK.1 hP 1 rfl rfl 5 (by decide) (hts _ fl_X5_145) (fun _ h9 => h9) rfl dX5_hits_4 ?_
  refine va_get (D := E.1) (ci := 0) hx hb hts inX0 hown hK.1 hP 15 rfl rfl 2 (by decide) (hts _ fl_X5_169) (fun _ h9 => h9) rfl dX5_hits_7 ?_
  exact W.iret hx hb hrt (fun t ht hW => ⟨rfl, ht⟩) hS.2.2 dX5_hits_10 hlocks
set_option maxHeartbeats 4000000 in
set_option maxRecDepth 100000 in
theorem m_X5_questionsTo_ok (l : Launch) (E : Env3) (α : Nat → Nat) (a b t9 : Nat) (n : Int) (st : S) (z : Nat) (hz : z < 6) : Met l yX5_questionsTo (Cond.code yX5_questionsTo cX5_questionsTo 2 (some .int) :: ALL) ({ frames := 7, cells := 0, slots := 0, locals := 102 }) (pR [.ref a, .int (I (z : Int))] E (fcW E α a b t9 n st)) (qS (some (.int (I (st (6 + 5 * z + 4)))))) 0 0 (fun _ => False) := by
  refine mk_met (by decide) rfl (Nat.le_of_ble_eq_true rfl) ?_
  intro p e s m args below meth c hx hb hrt hml hts hown hlocks hnm hP hK ls hl
  have hown : s.vm.findClass RX5 = some m.cls := hown
  have hl : lv_has ls 2 [(0, .ref a), (1, .int (I (z : Int)))] := hl
  have hS : va_S (fun _ => False) s.heap s.heap [] := va_S.rf
  refine lv_iload_n hx hb dX5_questionsTo_0 rfl (lv_lk hl rfl) ?_
  refine call_S (va_runS ⟨hx, hb, hml, hown, hts⟩ (m_X5_requireZone_ok l E (z : Int) (by omega)) (va_cwS 1 hts (gi_S ml_X5_31 st_X5_requireZone it_X5 cd_X5_requireZone) rfl rfl rfl (by decide +kernel) ⟨Nat.le_of_ble_eq_true rfl, Nat.le_of_ble_eq_true rfl⟩) (pR_S (hP.sub (ws' := []) [] rfl) hK) rfl rfl hl.1 rfl (lv_room (Nat.le_of_ble_eq_true rfl)) dX5_questionsTo_1 ⟨Nat.le_of_ble_eq_true rfl, Nat.le_of_ble_eq_true rfl⟩) (fun _ h => h) hS rfl (fun locs hS => ?_)
  refine lv_aload_n hx hb dX5_questionsTo_4 rfl (lv_lk hl rfl) ?_
  refine va_get (D := E.1) (ci := 5) hx hb hts inX5 hown hK.1 hP 0 rfl rfl 0 (by decide) (hts _ fl_X5_10) (fun _ h9 => h9) rfl dX5_questionsTo_5 ?_
  refine va_get (D := E.1) (ci := 3) hx hb hts inX3 hown hK.1 hP 1 rfl rfl 5 (by decide) (hts _ fl_X5_145) (fun _ h9 => h9) rfl dX5_questionsTo_8 ?_
  refine va_get (D := E.1) (ci := 0) hx hb hts inX0 hown hK.1 hP 15 rfl rfl 5 (by decide) (hts _ fl_X5_172) (fun _ h9 => h9) rfl dX5_questionsTo_11 ?_
  refine lv_iload_n hx hb dX5_questionsTo_14 rfl (lv_lk hl rfl) ?_
  refine call_S (va_runS ⟨hx, hb, hml, hown, hts⟩ (m_X5_read l E (α 15) 6 z (cQ st) (by omega) (by omega)) (va_cwS 2 hts (gi_S ml_X5_59 st_X5_read it_X5 cd_X5_read) rfl rfl rfl (by decide +kernel) ⟨Nat.le_of_ble_eq_true rfl, Nat.le_of_ble_eq_true rfl⟩) (pR_S (hP.sub (ws' := [(α 15, iA E 6 (cQ st))]) [16] rfl) hK) rfl rfl hl.1 rfl (lv_room (Nat.le_of_ble_eq_true rfl)) dX5_questionsTo_15 ⟨Nat.le_of_ble_eq_true rfl, Nat.le_of_ble_eq_true rfl⟩) (fun _ h => h) hS rfl (fun locs hS => ?_)
  exact W.iret hx hb hrt (fun t ht hW => ⟨rfl, ht⟩) hS.2.2 dX5_questionsTo_18 hlocks
set_option maxHeartbeats 4000000 in
set_option maxRecDepth 100000 in
theorem m_X5_wouldSolve_ok (l : Launch) (E : Env3) (α : Nat → Nat) (a b t9 : Nat) (n : Int) (st : S) (T : Int) (hI : IB T st) (hi9 : IT st) (r : Nat) (hr : r < 36) : Met l yX5_wouldSolve (Cond.code yX5_wouldSolve cX5_wouldSolve 2 (some .int) :: ALL) ({ frames := 7, cells := 0, slots := 0, locals := 102 }) (pR [.ref a, .int (I (r : Int))] E (fcW E α a b t9 n st)) (qS (some (.int (I (would st r))))) 0 0 (fun _ => False) := by
  refine mk_met (by decide) rfl (Nat.le_of_ble_eq_true rfl) ?_
  intro p e s m args below meth c hx hb hrt hml hts hown hlocks hnm hP hK ls hl
  have hown : s.vm.findClass RX5 = some m.cls := hown
  have hl : lv_has ls 2 [(0, .ref a), (1, .int (I (r : Int)))] := hl
  have hS : va_S (fun _ => False) s.heap s.heap [] := va_S.rf
  refine lv_iload_n hx hb dX5_wouldSolve_0 rfl (lv_lk hl rfl) ?_
  refine call_S (va_runS ⟨hx, hb, hml, hown, hts⟩ (m_X5_requireRiddle_ok l E (r : Int) (by omega)) (va_cwS 1 hts (gi_S ml_X5_73 st_X5_requireRiddle it_X5 cd_X5_requireRiddle) rfl rfl rfl (by decide +kernel) ⟨Nat.le_of_ble_eq_true rfl, Nat.le_of_ble_eq_true rfl⟩) (pR_S (hP.sub (ws' := []) [] rfl) hK) rfl rfl hl.1 rfl (lv_room (Nat.le_of_ble_eq_true rfl)) dX5_wouldSolve_1 ⟨Nat.le_of_ble_eq_true rfl, Nat.le_of_ble_eq_true rfl⟩) (fun _ h => h) hS rfl (fun locs hS => ?_)
  refine lv_aload_n hx hb dX5_wouldSolve_4 rfl (lv_lk hl rfl) ?_
  refine va_get (D := E.1) (ci := 5) hx hb hts inX5 hown hK.1 hP 0 rfl rfl 0 (by decide) (hts _ fl_X5_10) (fun _ h9 => h9) rfl dX5_wouldSolve_5 ?_
  refine iv_iconst hx hb dX5_wouldSolve_8 ?_
  refine lv_iload_n hx hb dX5_wouldSolve_9 rfl (lv_lk hl rfl) ?_
  refine call_S (va_runV ⟨hx, hb, hml, hown, hts⟩ (m_X3_resultAfter l E α st T hI 0 (by omega) r hr) (cwV 2 hts (gi_V ml_X5_175 im_X3_resultAfter sl_X3_resultAfter it_X3 cd_X3_resultAfter) rfl rfl rfl (by decide +kernel) ⟨Nat.le_of_ble_eq_true rfl, Nat.le_of_ble_eq_true rfl⟩) (pR_V (q0 := 0) (ci := 3) (hP.sub (ws' := (stW E α st)) [1, 2, 3, 4, 5, 6, 7, 8, 9, 10, 11, 12, 13, 14, 15, 16] rfl) hK rfl rfl) rfl rfl hl.1 rfl (lv_room (Nat.le_of_ble_eq_true rfl)) dX5_wouldSolve_10 ⟨Nat.le_of_ble_eq_true rfl, Nat.le_of_ble_eq_true rfl⟩) (fun _ h => h) hS rfl (fun locs hS => ?_)
  refine iv_eq (would st r) ((would_zero hI hi9 hr).symm) ?_
  exact W.iret hx hb hrt (fun t ht hW => ⟨rfl, ht⟩) hS.2.2 dX5_wouldSolve_13 hlocks
set_option maxHeartbeats 4000000 in
set_option maxRecDepth 100000 in
theorem m_X5_costOf_ok (l : Launch) (E : Env3) (α : Nat → Nat) (a b t9 : Nat) (n : Int) (st : S) (T : Int) (hI : IB T st) (r : Nat) (hr : r < 36) : Met l yX5_costOf (Cond.code yX5_costOf cX5_costOf 2 (some .int) :: ALL) ({ frames := 7, cells := 0, slots := 0, locals := 102 }) (pR [.ref a, .int (I (r : Int))] E (fcW E α a b t9 n st)) (qS (some (.int (I (cost st r))))) 0 0 (fun _ => False) := by
  refine mk_met (by decide) rfl (Nat.le_of_ble_eq_true rfl) ?_
  intro p e s m args below meth c hx hb hrt hml hts hown hlocks hnm hP hK ls hl
  have hown : s.vm.findClass RX5 = some m.cls := hown
  have hl : lv_has ls 2 [(0, .ref a), (1, .int (I (r : Int)))] := hl
  have hS : va_S (fun _ => False) s.heap s.heap [] := va_S.rf
  refine lv_iload_n hx hb dX5_costOf_0 rfl (lv_lk hl rfl) ?_
  refine call_S (va_runS ⟨hx, hb, hml, hown, hts⟩ (m_X5_requireRiddle_ok l E (r : Int) (by omega)) (va_cwS 1 hts (gi_S ml_X5_73 st_X5_requireRiddle it_X5 cd_X5_requireRiddle) rfl rfl rfl (by decide +kernel) ⟨Nat.le_of_ble_eq_true rfl, Nat.le_of_ble_eq_true rfl⟩) (pR_S (hP.sub (ws' := []) [] rfl) hK) rfl rfl hl.1 rfl (lv_room (Nat.le_of_ble_eq_true rfl)) dX5_costOf_1 ⟨Nat.le_of_ble_eq_true rfl, Nat.le_of_ble_eq_true rfl⟩) (fun _ h => h) hS rfl (fun locs hS => ?_)
  refine lv_aload_n hx hb dX5_costOf_4 rfl (lv_lk hl rfl) ?_
  refine va_get (D := E.1) (ci := 5) hx hb hts inX5 hown hK.1 hP 0 rfl rfl 0 (by decide) (hts _ fl_X5_10) (fun _ h9 => h9) rfl dX5_costOf_5 ?_
  refine lv_iload_n hx hb dX5_costOf_8 rfl (lv_lk hl rfl) ?_
  refine call_S (va_runV ⟨hx, hb, hml, hown, hts⟩ (m_X3_countQuestions l E α st T hI r hr) (cwV 1 hts (gi_V ml_X5_179 im_X3_countQuestions sl_X3_countQuestions it_X3 cd_X3_countQuestions) rfl rfl rfl (by decide +kernel) ⟨Nat.le_of_ble_eq_true rfl, Nat.le_of_ble_eq_true rfl⟩) (pR_V (q0 := 0) (ci := 3) (hP.sub (ws' := (stW E α st)) [1, 2, 3, 4, 5, 6, 7, 8, 9, 10, 11, 12, 13, 14, 15, 16] rfl) hK rfl rfl) rfl rfl hl.1 rfl (lv_room (Nat.le_of_ble_eq_true rfl)) dX5_costOf_9 ⟨Nat.le_of_ble_eq_true rfl, Nat.le_of_ble_eq_true rfl⟩) (fun _ h => h) hS rfl (fun locs hS => ?_)
  exact W.iret hx hb hrt (fun t ht hW => ⟨rfl, ht⟩) hS.2.2 dX5_costOf_12 hlocks
set_option maxHeartbeats 4000000 in
set_option maxRecDepth 100000 in
theorem m_X5_ticksUntilTruth_ok (l : Launch) (E : Env3) (α : Nat → Nat) (a b t9 : Nat) (n : Int) (st : S) (T : Int) (hI : IB T st) (hi9 : IT st) (hT : T ≤ 99900) (r : Nat) (hr : r < 36) : Met l yX5_ticksUntilTruth (Cond.code yX5_ticksUntilTruth cX5_ticksUntilTruth 2 (some .int) :: ALL) ({ frames := 7, cells := 0, slots := 0, locals := 111 }) (pR [.ref a, .int (I (r : Int))] E (fcW E α a b t9 n st)) (qS (some (.int (I ((waitF 100 st r 0 : Int)))))) 0 0 (fun _ => False) := by
  refine mk_met (by decide) rfl (Nat.le_of_ble_eq_true rfl) ?_
  intro p e s m args below meth c hx hb hrt hml hts hown hlocks hnm hP hK ls hl
  have hown : s.vm.findClass RX5 = some m.cls := hown
  have hl : lv_has ls 2 [(0, .ref a), (1, .int (I (r : Int)))] := hl
  have hS : va_S (fun _ => False) s.heap s.heap [] := va_S.rf
  refine lv_iload_n hx hb dX5_ticksUntilTruth_0 rfl (lv_lk hl rfl) ?_
  refine call_S (va_runS ⟨hx, hb, hml, hown, hts⟩ (m_X5_requireRiddle_ok l E (r : Int) (by omega)) (va_cwS 1 hts (gi_S ml_X5_73 st_X5_requireRiddle it_X5 cd_X5_requireRiddle) rfl rfl rfl (by decide +kernel) ⟨Nat.le_of_ble_eq_true rfl, Nat.le_of_ble_eq_true rfl⟩) (pR_S (hP.sub (ws' := []) [] rfl) hK) rfl rfl hl.1 rfl (lv_room (Nat.le_of_ble_eq_true rfl)) dX5_ticksUntilTruth_1 ⟨Nat.le_of_ble_eq_true rfl, Nat.le_of_ble_eq_true rfl⟩) (fun _ h => h) hS rfl (fun locs hS => ?_)
  refine lv_aload_n hx hb dX5_ticksUntilTruth_4 rfl (lv_lk hl rfl) ?_
  refine va_get (D := E.1) (ci := 5) hx hb hts inX5 hown hK.1 hP 0 rfl rfl 0 (by decide) (hts _ fl_X5_10) (fun _ h9 => h9) rfl dX5_ticksUntilTruth_5 ?_
  refine lv_iload_n hx hb dX5_ticksUntilTruth_8 rfl (lv_lk hl rfl) ?_
  refine call_S (va_runV ⟨hx, hb, hml, hown, hts⟩ (m_X3_waitForTruth l E α st T hI hi9 hT r hr) (cwV 1 hts (gi_V ml_X5_182 im_X3_waitForTruth sl_X3_waitForTruth it_X3 cd_X3_waitForTruth) rfl rfl rfl (by decide +kernel) ⟨Nat.le_of_ble_eq_true rfl, Nat.le_of_ble_eq_true rfl⟩) (pR_V (q0 := 0) (ci := 3) (hP.sub (ws' := (stW E α st)) [1, 2, 3, 4, 5, 6, 7, 8, 9, 10, 11, 12, 13, 14, 15, 16] rfl) hK rfl rfl) rfl rfl hl.1 rfl (lv_room (Nat.le_of_ble_eq_true rfl)) dX5_ticksUntilTruth_9 ⟨Nat.le_of_ble_eq_true rfl, Nat.le_of_ble_eq_true rfl⟩) (fun _ h => h) hS rfl (fun locs hS => ?_)
  exact W.iret hx hb hrt (fun t ht hW => ⟨rfl, ht⟩) hS.2.2 dX5_ticksUntilTruth_12 hlocks
