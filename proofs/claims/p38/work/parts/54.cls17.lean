/-! the class: what always throws at arguments that are not valid (or at a state that allows it not); written by cls17.py -/
theorem va_P_nil {D : va_G} {cl : List vw_C} {H : Heap} : va_P D cl [] H := fun k q h => by simp at h
set_option maxHeartbeats 4000000 in
set_option maxRecDepth 100000 in
theorem x_requireZone (l : Launch) (hl0 : l.stackTraces = false) (E : Env3) (z : Int) (hz : -2147483648 ≤ z ∧ z ≤ 2147483647) (g9 : ¬ (0 ≤ z ∧ z ≤ 5)) : vx_Met l yX5_requireZone (Cond.code yX5_requireZone cX5_requireZone 1 none :: ALL) ({ frames := 6, cells := 1, slots := 6, locals := 82 }) (pX [.int (I z)] E noA (va_P E.1 vwCl [])) qF (xT xIO noA (fun _ => True)) 1 6 noA := by
  refine mk_x (by decide) rfl (Nat.le_of_ble_eq_true rfl) ?_
  intro p e s m args below meth c hx hb hrt hml hts hown hlocks htb hK hKX hZ hP ls hl
  have hown : s.vm.findClass RX5 = some m.cls := hown
  have hl : lv_has ls 1 [(0, .int (I z))] := hl
  have hS : va_S noA s.heap s.heap [] := va_S.rf
  refine lv_iload_n hx hb dX5_requireZone_0 rfl (lv_lk hl rfl) ?_
  refine iv_if_lt (tgt := 10) hx hb dX5_requireZone_1 (by decide) (by omega) (fun c_1 => ?_) (fun c_1 => ?_)
  · exact x_throwW hx hb hl0 xIO_ok hown hml hl hts hKX hZ hS (fun _ _ _ => trivial) htb hlocks (List.mem_of_getElem? (i := 0) rfl) dX5_requireZone_10 dX5_requireZone_13 dX5_requireZone_14 dX5_requireZone_17 dX5_requireZone_20 ⟨Nat.le_of_ble_eq_true rfl, Nat.le_of_ble_eq_true rfl, Nat.le_of_ble_eq_true rfl, Nat.le_of_ble_eq_true rfl⟩ (Nat.le_of_ble_eq_true rfl) (Nat.le_of_ble_eq_true rfl)
  · refine lv_iload_n hx hb dX5_requireZone_4 rfl (lv_lk hl rfl) ?_
    refine iv_bipush hx hb dX5_requireZone_5 (by decide +kernel) ?_
    refine iv_icmp_lt (tgt := 21) hx hb dX5_requireZone_7 (by decide) (by omega) (by omega) (fun c_7 => by exfalso; omega) (fun c_7 => ?_)
    exact x_throwW hx hb hl0 xIO_ok hown hml hl hts hKX hZ hS (fun _ _ _ => trivial) htb hlocks (List.mem_of_getElem? (i := 0) rfl) dX5_requireZone_10 dX5_requireZone_13 dX5_requireZone_14 dX5_requireZone_17 dX5_requireZone_20 ⟨Nat.le_of_ble_eq_true rfl, Nat.le_of_ble_eq_true rfl, Nat.le_of_ble_eq_true rfl, Nat.le_of_ble_eq_true rfl⟩ (Nat.le_of_ble_eq_true rfl) (Nat.le_of_ble_eq_true rfl)
set_option maxHeartbeats 4000000 in
set_option maxRecDepth 100000 in
theorem x_requireRiddle (l : Launch) (hl0 : l.stackTraces = false) (E : Env3) (r : Int) (hr : -2147483648 ≤ r ∧ r ≤ 2147483647) (g9 : ¬ (0 ≤ r ∧ r ≤ 35)) : vx_Met l yX5_requireRiddle (Cond.code yX5_requireRiddle cX5_requireRiddle 1 none :: ALL) ({ frames := 6, cells := 1, slots := 6, locals := 82 }) (pX [.int (I r)] E noA (va_P E.1 vwCl [])) qF (xT xIO noA (fun _ => True)) 1 6 noA := by
  refine mk_x (by decide) rfl (Nat.le_of_ble_eq_true rfl) ?_
  intro p e s m args below meth c hx hb hrt hml hts hown hlocks htb hK hKX hZ hP ls hl
  have hown : s.vm.findClass RX5 = some m.cls := hown
  have hl : lv_has ls 1 [(0, .int (I r))] := hl
  have hS : va_S noA s.heap s.heap [] := va_S.rf
  refine lv_iload_n hx hb dX5_requireRiddle_0 rfl (lv_lk hl rfl) ?_
  refine iv_if_lt (tgt := 10) hx hb dX5_requireRiddle_1 (by decide) (by omega) (fun c_1 => ?_) (fun c_1 => ?_)
  · exact x_throwW hx hb hl0 xIO_ok hown hml hl hts hKX hZ hS (fun _ _ _ => trivial) htb hlocks (List.mem_of_getElem? (i := 1) rfl) dX5_requireRiddle_10 dX5_requireRiddle_13 dX5_requireRiddle_14 dX5_requireRiddle_17 dX5_requireRiddle_20 ⟨Nat.le_of_ble_eq_true rfl, Nat.le_of_ble_eq_true rfl, Nat.le_of_ble_eq_true rfl, Nat.le_of_ble_eq_true rfl⟩ (Nat.le_of_ble_eq_true rfl) (Nat.le_of_ble_eq_true rfl)
  · refine lv_iload_n hx hb dX5_requireRiddle_4 rfl (lv_lk hl rfl) ?_
    refine iv_bipush hx hb dX5_requireRiddle_5 (by decide +kernel) ?_
    refine iv_icmp_lt (tgt := 21) hx hb dX5_requireRiddle_7 (by decide) (by omega) (by omega) (fun c_7 => by exfalso; omega) (fun c_7 => ?_)
    exact x_throwW hx hb hl0 xIO_ok hown hml hl hts hKX hZ hS (fun _ _ _ => trivial) htb hlocks (List.mem_of_getElem? (i := 1) rfl) dX5_requireRiddle_10 dX5_requireRiddle_13 dX5_requireRiddle_14 dX5_requireRiddle_17 dX5_requireRiddle_20 ⟨Nat.le_of_ble_eq_true rfl, Nat.le_of_ble_eq_true rfl, Nat.le_of_ble_eq_true rfl, Nat.le_of_ble_eq_true rfl⟩ (Nat.le_of_ble_eq_true rfl) (Nat.le_of_ble_eq_true rfl)
set_option maxHeartbeats 4000000 in
set_option maxRecDepth 100000 in
theorem x_requireRange (l : Launch) (hl0 : l.stackTraces = false) (E : Env3) (v lo hi9 : Int) (hv : -2147483648 ≤ v ∧ v ≤ 2147483647) (hlo : -2147483648 ≤ lo ∧ lo ≤ 2147483647) (hhi9 : -2147483648 ≤ hi9 ∧ hi9 ≤ 2147483647) (g9 : ¬ (lo ≤ v ∧ v ≤ hi9)) : vx_Met l yX5_requireRange (Cond.code yX5_requireRange cX5_requireRange 3 none :: ALL) ({ frames := 6, cells := 1, slots := 6, locals := 82 }) (pX [.int (I v), .int (I lo), .int (I hi9)] E noA (va_P E.1 vwCl [])) qF (xT xIA noA (fun _ => True)) 1 6 noA := by
  refine mk_x (by decide) rfl (Nat.le_of_ble_eq_true rfl) ?_
  intro p e s m args below meth c hx hb hrt hml hts hown hlocks htb hK hKX hZ hP ls hl
  have hown : s.vm.findClass RX5 = some m.cls := hown
  have hl : lv_has ls 3 [(0, .int (I v)), (1, .int (I lo)), (2, .int (I hi9))] := hl
  have hS : va_S noA s.heap s.heap [] := va_S.rf
  refine lv_iload_n hx hb dX5_requireRange_0 rfl (lv_lk hl rfl) ?_
  refine lv_iload_n hx hb dX5_requireRange_1 rfl (lv_lk hl rfl) ?_
  refine iv_icmp_lt (tgt := 10) hx hb dX5_requireRange_2 (by decide) (by omega) (by omega) (fun c_2 => ?_) (fun c_2 => ?_)
  · exact x_throwW hx hb hl0 xIA_ok hown hml hl hts hKX hZ hS (fun _ _ _ => trivial) htb hlocks (List.mem_of_getElem? (i := 3) rfl) dX5_requireRange_10 dX5_requireRange_13 dX5_requireRange_14 dX5_requireRange_17 dX5_requireRange_20 ⟨Nat.le_of_ble_eq_true rfl, Nat.le_of_ble_eq_true rfl, Nat.le_of_ble_eq_true rfl, Nat.le_of_ble_eq_true rfl⟩ (Nat.le_of_ble_eq_true rfl) (Nat.le_of_ble_eq_true rfl)
  · refine lv_iload_n hx hb dX5_requireRange_5 rfl (lv_lk hl rfl) ?_
    refine lv_iload_n hx hb dX5_requireRange_6 rfl (lv_lk hl rfl) ?_
    refine iv_icmp_le (tgt := 21) hx hb dX5_requireRange_7 (by decide) (by omega) (by omega) (fun c_7 => by exfalso; omega) (fun c_7 => ?_)
    exact x_throwW hx hb hl0 xIA_ok hown hml hl hts hKX hZ hS (fun _ _ _ => trivial) htb hlocks (List.mem_of_getElem? (i := 3) rfl) dX5_requireRange_10 dX5_requireRange_13 dX5_requireRange_14 dX5_requireRange_17 dX5_requireRange_20 ⟨Nat.le_of_ble_eq_true rfl, Nat.le_of_ble_eq_true rfl, Nat.le_of_ble_eq_true rfl, Nat.le_of_ble_eq_true rfl⟩ (Nat.le_of_ble_eq_true rfl) (Nat.le_of_ble_eq_true rfl)
set_option maxHeartbeats 4000000 in
set_option maxRecDepth 100000 in
theorem x_setParent_1 (l : Launch) (hl0 : l.stackTraces = false) (E : Env3) (a : Nat) (z q : Int) (hz : -2147483648 ≤ z ∧ z ≤ 2147483647) (hq : -2147483648 ≤ q ∧ q ≤ 2147483647) (g9 : ¬ (0 ≤ z ∧ z ≤ 5)) : vx_Met l yX5_setParent (Cond.code yX5_setParent cX5_setParent 4 (some .int) :: ALL) ({ frames := 7, cells := 1, slots := 6, locals := 148 }) (pX [.ref a, .int (I z), .int (I q)] E noA (va_P E.1 vwCl [])) qF (xT xIO noA (fun _ => True)) 1 6 noA := by
  refine mk_x (by decide) rfl (Nat.le_of_ble_eq_true rfl) ?_
  intro p e s m args below meth c hx hb hrt hml hts hown hlocks htb hK hKX hZ hP ls hl
  have hown : s.vm.findClass RX5 = some m.cls := hown
  have hl : lv_has ls 4 [(0, .ref a), (1, .int (I z)), (2, .int (I q))] := hl
  have hS : va_S noA s.heap s.heap [] := va_S.rf
  refine lv_iload_n hx hb dX5_setParent_0 rfl (lv_lk hl rfl) ?_
  exact x_callT (A1 := noA) (Po1 := fun _ => True) (vx_runS ⟨hx, hb, hml, hown, hts⟩ (x_requireZone l hl0 E z hz g9) (va_cwS 1 hts (gi_S ml_X5_31 st_X5_requireZone it_X5 cd_X5_requireZone) rfl rfl rfl (by decide +kernel) ⟨Nat.le_of_ble_eq_true rfl, Nat.le_of_ble_eq_true rfl⟩) (pX_S hK hKX hZ.none va_P_nil) rfl rfl hl.1 rfl (lv_room (Nat.le_of_ble_eq_true rfl)) dX5_setParent_1 ⟨Nat.le_of_ble_eq_true rfl, Nat.le_of_ble_eq_true rfl⟩) (fun _ h => h.elim) (fun _ _ _ _ => trivial) hS htb hlocks (Nat.le_of_ble_eq_true rfl) (Nat.le_of_ble_eq_true rfl)
set_option maxHeartbeats 4000000 in
set_option maxRecDepth 100000 in
theorem x_setParent_0 (l : Launch) (hl0 : l.stackTraces = false) (E : Env3) (a : Nat) (z q : Int) (hz : -2147483648 ≤ z ∧ z ≤ 2147483647) (hq : -2147483648 ≤ q ∧ q ≤ 2147483647) (z8 : z = 0) : vx_Met l yX5_setParent (Cond.code yX5_setParent cX5_setParent 4 (some .int) :: ALL) ({ frames := 7, cells := 1, slots := 6, locals := 148 }) (pX [.ref a, .int (I z), .int (I q)] E noA (va_P E.1 vwCl [])) qF (xT xIO noA (fun _ => True)) 1 6 noA := by
  refine mk_x (by decide) rfl (Nat.le_of_ble_eq_true rfl) ?_
  intro p e s m args below meth c hx hb hrt hml hts hown hlocks htb hK hKX hZ hP ls hl
  have hown : s.vm.findClass RX5 = some m.cls := hown
  have hl : lv_has ls 4 [(0, .ref a), (1, .int (I z)), (2, .int (I q))] := hl
  have hS : va_S noA s.heap s.heap [] := va_S.rf
  refine lv_iload_n hx hb dX5_setParent_0 rfl (lv_lk hl rfl) ?_
  refine call_S (va_runS ⟨hx, hb, hml, hown, hts⟩ (m_X5_requireZone_ok l E z (by omega)) (va_cwS 1 hts (gi_S ml_X5_31 st_X5_requireZone it_X5 cd_X5_requireZone) rfl rfl rfl (by decide +kernel) ⟨Nat.le_of_ble_eq_true rfl, Nat.le_of_ble_eq_true rfl⟩) (pR_S (hP.sub (ws' := []) [] rfl) hK) rfl rfl hl.1 rfl (lv_room (Nat.le_of_ble_eq_true rfl)) dX5_setParent_1 ⟨Nat.le_of_ble_eq_true rfl, Nat.le_of_ble_eq_true rfl⟩) (fun _ h => h) hS rfl (fun locs hS => ?_)
  refine lv_iload_n hx hb dX5_setParent_4 rfl (lv_lk hl rfl) ?_
  refine iv_if_ne (tgt := 18) hx hb dX5_setParent_5 (by decide) (by omega) (fun c_5 => by exfalso; omega) (fun c_5 => ?_)
  exact x_throwS hx hb hl0 xIO_ok hown hml hl hts hKX hZ hS (fun _ _ _ => trivial) htb hlocks (List.mem_of_getElem? (i := 2) rfl) dX5_setParent_8 dX5_setParent_11 dX5_setParent_12 dX5_setParent_14 dX5_setParent_17 ⟨Nat.le_of_ble_eq_true rfl, Nat.le_of_ble_eq_true rfl, Nat.le_of_ble_eq_true rfl, Nat.le_of_ble_eq_true rfl⟩ (Nat.le_of_ble_eq_true rfl) (Nat.le_of_ble_eq_true rfl)
set_option maxHeartbeats 4000000 in
set_option maxRecDepth 100000 in
theorem x_setParent_2 (l : Launch) (hl0 : l.stackTraces = false) (E : Env3) (a : Nat) (z q : Int) (hz : -2147483648 ≤ z ∧ z ≤ 2147483647) (hq : -2147483648 ≤ q ∧ q ≤ 2147483647) (z8 : 1 ≤ z ∧ z ≤ 5) (g9 : ¬ (0 ≤ q ∧ q < z)) : vx_Met l yX5_setParent (Cond.code yX5_setParent cX5_setParent 4 (some .int) :: ALL) ({ frames := 7, cells := 1, slots := 6, locals := 148 }) (pX [.ref a, .int (I z), .int (I q)] E noA (va_P E.1 vwCl [])) qF (xT xIA noA (fun _ => True)) 1 6 noA := by
  refine mk_x (by decide) rfl (Nat.le_of_ble_eq_true rfl) ?_
  intro p e s m args below meth c hx hb hrt hml hts hown hlocks htb hK hKX hZ hP ls hl
  have hown : s.vm.findClass RX5 = some m.cls := hown
  have hl : lv_has ls 4 [(0, .ref a), (1, .int (I z)), (2, .int (I q))] := hl
  have hS : va_S noA s.heap s.heap [] := va_S.rf
  refine lv_iload_n hx hb dX5_setParent_0 rfl (lv_lk hl rfl) ?_
  refine call_S (va_runS ⟨hx, hb, hml, hown, hts⟩ (m_X5_requireZone_ok l E z (by omega)) (va_cwS 1 hts (gi_S ml_X5_31 st_X5_requireZone it_X5 cd_X5_requireZone) rfl rfl rfl (by decide +kernel) ⟨Nat.le_of_ble_eq_true rfl, Nat.le_of_ble_eq_true rfl⟩) (pR_S (hP.sub (ws' := []) [] rfl) hK) rfl rfl hl.1 rfl (lv_room (Nat.le_of_ble_eq_true rfl)) dX5_setParent_1 ⟨Nat.le_of_ble_eq_true rfl, Nat.le_of_ble_eq_true rfl⟩) (fun _ h => h) hS rfl (fun locs hS => ?_)
  refine lv_iload_n hx hb dX5_setParent_4 rfl (lv_lk hl rfl) ?_
  refine iv_if_ne (tgt := 18) hx hb dX5_setParent_5 (by decide) (by omega) (fun c_5 => ?_) (fun c_5 => by exfalso; omega)
  refine lv_iload_n hx hb dX5_setParent_18 rfl (lv_lk hl rfl) ?_
  refine iv_iconst hx hb dX5_setParent_19 ?_
  refine lv_iload_n hx hb dX5_setParent_20 rfl (lv_lk hl rfl) ?_
  refine iv_iconst hx hb dX5_setParent_21 ?_
  refine iv_isub hx hb dX5_setParent_22 ?_
  exact x_callT (A1 := noA) (Po1 := fun _ => True) (vx_runS ⟨hx, hb, hml, hown, hts⟩ (x_requireRange l hl0 E q 0 (z - 1) (by omega) (by omega) (by omega) (by omega)) (va_cwS 3 hts (gi_S ml_X5_42 st_X5_requireRange it_X5 cd_X5_requireRange) rfl rfl rfl (by decide +kernel) ⟨Nat.le_of_ble_eq_true rfl, Nat.le_of_ble_eq_true rfl⟩) (pX_S hK hKX hZ.none va_P_nil) rfl rfl hl.1 rfl (lv_room (Nat.le_of_ble_eq_true rfl)) dX5_setParent_23 ⟨Nat.le_of_ble_eq_true rfl, Nat.le_of_ble_eq_true rfl⟩) (fun _ h => h.elim) (fun _ _ _ _ => trivial) hS htb hlocks (Nat.le_of_ble_eq_true rfl) (Nat.le_of_ble_eq_true rfl)
set_option maxHeartbeats 4000000 in
set_option maxRecDepth 100000 in
theorem x_setAges_1 (l : Launch) (hl0 : l.stackTraces = false) (E : Env3) (a : Nat) (z u v : Int) (hz : -2147483648 ≤ z ∧ z ≤ 2147483647) (hu : -2147483648 ≤ u ∧ u ≤ 2147483647) (hv : -2147483648 ≤ v ∧ v ≤ 2147483647) (g9 : ¬ (0 ≤ z ∧ z ≤ 5)) : vx_Met l yX5_setAges (Cond.code yX5_setAges cX5_setAges 5 (some .int) :: ALL) ({ frames := 7, cells := 1, slots := 6, locals := 148 }) (pX [.ref a, .int (I z), .int (I u), .int (I v)] E noA (va_P E.1 vwCl [])) qF (xT xIO noA (fun _ => True)) 1 6 noA := by
  refine mk_x (by decide) rfl (Nat.le_of_ble_eq_true rfl) ?_
  intro p e s m args below meth c hx hb hrt hml hts hown hlocks htb hK hKX hZ hP ls hl
  have hown : s.vm.findClass RX5 = some m.cls := hown
  have hl : lv_has ls 5 [(0, .ref a), (1, .int (I z)), (2, .int (I u)), (3, .int (I v))] := hl
  have hS : va_S noA s.heap s.heap [] := va_S.rf
  refine lv_iload_n hx hb dX5_setAges_0 rfl (lv_lk hl rfl) ?_
  exact x_callT (A1 := noA) (Po1 := fun _ => True) (vx_runS ⟨hx, hb, hml, hown, hts⟩ (x_requireZone l hl0 E z hz g9) (va_cwS 1 hts (gi_S ml_X5_31 st_X5_requireZone it_X5 cd_X5_requireZone) rfl rfl rfl (by decide +kernel) ⟨Nat.le_of_ble_eq_true rfl, Nat.le_of_ble_eq_true rfl⟩) (pX_S hK hKX hZ.none va_P_nil) rfl rfl hl.1 rfl (lv_room (Nat.le_of_ble_eq_true rfl)) dX5_setAges_1 ⟨Nat.le_of_ble_eq_true rfl, Nat.le_of_ble_eq_true rfl⟩) (fun _ h => h.elim) (fun _ _ _ _ => trivial) hS htb hlocks (Nat.le_of_ble_eq_true rfl) (Nat.le_of_ble_eq_true rfl)
set_option maxHeartbeats 4000000 in
set_option maxRecDepth 100000 in
theorem x_setAges_2 (l : Launch) (hl0 : l.stackTraces = false) (E : Env3) (a : Nat) (z u v : Int) (hz : -2147483648 ≤ z ∧ z ≤ 2147483647) (hu : -2147483648 ≤ u ∧ u ≤ 2147483647) (hv : -2147483648 ≤ v ∧ v ≤ 2147483647) (z8 : 0 ≤ z ∧ z ≤ 5) (g9 : ¬ (1 ≤ u ∧ u ≤ 99)) : vx_Met l yX5_setAges (Cond.code yX5_setAges cX5_setAges 5 (some .int) :: ALL) ({ frames := 7, cells := 1, slots := 6, locals := 148 }) (pX [.ref a, .int (I z), .int (I u), .int (I v)] E noA (va_P E.1 vwCl [])) qF (xT xIA noA (fun _ => True)) 1 6 noA := by
  refine mk_x (by decide) rfl (Nat.le_of_ble_eq_true rfl) ?_
  intro p e s m args below meth c hx hb hrt hml hts hown hlocks htb hK hKX hZ hP ls hl
  have hown : s.vm.findClass RX5 = some m.cls := hown
  have hl : lv_has ls 5 [(0, .ref a), (1, .int (I z)), (2, .int (I u)), (3, .int (I v))] := hl
  have hS : va_S noA s.heap s.heap [] := va_S.rf
  refine lv_iload_n hx hb dX5_setAges_0 rfl (lv_lk hl rfl) ?_
  refine call_S (va_runS ⟨hx, hb, hml, hown, hts⟩ (m_X5_requireZone_ok l E z (by omega)) (va_cwS 1 hts (gi_S ml_X5_31 st_X5_requireZone it_X5 cd_X5_requireZone) rfl rfl rfl (by decide +kernel) ⟨Nat.le_of_ble_eq_true rfl, Nat.le_of_ble_eq_true rfl⟩) (pR_S (hP.sub (ws' := []) [] rfl) hK) rfl rfl hl.1 rfl (lv_room (Nat.le_of_ble_eq_true rfl)) dX5_setAges_1 ⟨Nat.le_of_ble_eq_true rfl, Nat.le_of_ble_eq_true rfl⟩) (fun _ h => h) hS rfl (fun locs hS => ?_)
  refine lv_iload_n hx hb dX5_setAges_4 rfl (lv_lk hl rfl) ?_
  refine iv_iconst hx hb dX5_setAges_5 ?_
  refine iv_bipush hx hb dX5_setAges_6 (by decide +kernel) ?_
  exact x_callT (A1 := noA) (Po1 := fun _ => True) (vx_runS ⟨hx, hb, hml, hown, hts⟩ (x_requireRange l hl0 E u 1 99 (by omega) (by omega) (by omega) (by omega)) (va_cwS 3 hts (gi_S ml_X5_42 st_X5_requireRange it_X5 cd_X5_requireRange) rfl rfl rfl (by decide +kernel) ⟨Nat.le_of_ble_eq_true rfl, Nat.le_of_ble_eq_true rfl⟩) (pX_S hK hKX hZ.none va_P_nil) rfl rfl hl.1 rfl (lv_room (Nat.le_of_ble_eq_true rfl)) dX5_setAges_8 ⟨Nat.le_of_ble_eq_true rfl, Nat.le_of_ble_eq_true rfl⟩) (fun _ h => h.elim) (fun _ _ _ _ => trivial) hS htb hlocks (Nat.le_of_ble_eq_true rfl) (Nat.le_of_ble_eq_true rfl)
set_option maxHeartbeats 4000000 in
set_option maxRecDepth 100000 in
theorem x_setAges_3 (l : Launch) (hl0 : l.stackTraces = false) (E : Env3) (a : Nat) (z u v : Int) (hz : -2147483648 ≤ z ∧ z ≤ 2147483647) (hu : -2147483648 ≤ u ∧ u ≤ 2147483647) (hv : -2147483648 ≤ v ∧ v ≤ 2147483647) (z8 : 0 ≤ z ∧ z ≤ 5) (u8 : 1 ≤ u ∧ u ≤ 99) (g9 : ¬ (1 ≤ v ∧ v ≤ 99)) : vx_Met l yX5_setAges (Cond.code yX5_setAges cX5_setAges 5 (some .int) :: ALL) ({ frames := 7, cells := 1, slots := 6, locals := 148 }) (pX [.ref a, .int (I z), .int (I u), .int (I v)] E noA (va_P E.1 vwCl [])) qF (xT xIA noA (fun _ => True)) 1 6 noA := by
  refine mk_x (by decide) rfl (Nat.le_of_ble_eq_true rfl) ?_
  intro p e s m args below meth c hx hb hrt hml hts hown hlocks htb hK hKX hZ hP ls hl
  have hown : s.vm.findClass RX5 = some m.cls := hown
  have hl : lv_has ls 5 [(0, .ref a), (1, .int (I z)), (2, .int (I u)), (3, .int (I v))] := hl
  have hS : va_S noA s.heap s.heap [] := va_S.rf
  refine lv_iload_n hx hb dX5_setAges_0 rfl (lv_lk hl rfl) ?_
  refine call_S (va_runS ⟨hx, hb, hml, hown, hts⟩ (m_X5_requireZone_ok l E z (by omega)) (va_cwS 1 hts (gi_S ml_X5_31 st_X5_requireZone it_X5 cd_X5_requireZone) rfl rfl rfl (by decide +kernel) ⟨Nat.le_of_ble_eq_true rfl, Nat.le_of_ble_eq_true rfl⟩) (pR_S (hP.sub (ws' := []) [] rfl) hK) rfl rfl hl.1 rfl (lv_room (Nat.le_of_ble_eq_true rfl)) dX5_setAges_1 ⟨Nat.le_of_ble_eq_true rfl, Nat.le_of_ble_eq_true rfl⟩) (fun _ h => h) hS rfl (fun locs hS => ?_)
  refine lv_iload_n hx hb dX5_setAges_4 rfl (lv_lk hl rfl) ?_
  refine iv_iconst hx hb dX5_setAges_5 ?_
  refine iv_bipush hx hb dX5_setAges_6 (by decide +kernel) ?_
  refine call_S (va_runS ⟨hx, hb, hml, hown, hts⟩ (m_X5_requireRange_ok l E u 1 99 (by omega) (by omega) (by omega) (by omega)) (va_cwS 3 hts (gi_S ml_X5_42 st_X5_requireRange it_X5 cd_X5_requireRange) rfl rfl rfl (by decide +kernel) ⟨Nat.le_of_ble_eq_true rfl, Nat.le_of_ble_eq_true rfl⟩) (pR_S (hP.sub (ws' := []) [] rfl) hK) rfl rfl hl.1 rfl (lv_room (Nat.le_of_ble_eq_true rfl)) dX5_setAges_8 ⟨Nat.le_of_ble_eq_true rfl, Nat.le_of_ble_eq_true rfl⟩) (fun _ h => h) hS rfl (fun locs hS => ?_)
  refine lv_iload_n hx hb dX5_setAges_11 rfl (lv_lk hl rfl) ?_
  refine iv_iconst hx hb dX5_setAges_12 ?_
  refine iv_bipush hx hb dX5_setAges_13 (by decide +kernel) ?_
  exact x_callT (A1 := noA) (Po1 := fun _ => True) (vx_runS ⟨hx, hb, hml, hown, hts⟩ (x_requireRange l hl0 E v 1 99 (by omega) (by omega) (by omega) (by omega)) (va_cwS 3 hts (gi_S ml_X5_42 st_X5_requireRange it_X5 cd_X5_requireRange) rfl rfl rfl (by decide +kernel) ⟨Nat.le_of_ble_eq_true rfl, Nat.le_of_ble_eq_true rfl⟩) (pX_S hK hKX hZ.none va_P_nil) rfl rfl hl.1 rfl (lv_room (Nat.le_of_ble_eq_true rfl)) dX5_setAges_15 ⟨Nat.le_of_ble_eq_true rfl, Nat.le_of_ble_eq_true rfl⟩) (fun _ h => h.elim) (fun _ _ _ _ => trivial) hS htb hlocks (Nat.le_of_ble_eq_true rfl) (Nat.le_of_ble_eq_true rfl)
set_option maxHeartbeats 4000000 in
set_option maxRecDepth 100000 in
theorem x_setAnswer_1 (l : Launch) (hl0 : l.stackTraces = false) (E : Env3) (a : Nat) (r v u : Int) (hr : -2147483648 ≤ r ∧ r ≤ 2147483647) (hv : -2147483648 ≤ v ∧ v ≤ 2147483647) (hu : -2147483648 ≤ u ∧ u ≤ 2147483647) (g9 : ¬ (0 ≤ r ∧ r ≤ 35)) : vx_Met l yX5_setAnswer (Cond.code yX5_setAnswer cX5_setAnswer 4 (some .int) :: ALL) ({ frames := 7, cells := 1, slots := 6, locals := 173 }) (pX [.ref a, .int (I r), .int (I v), .int (I u)] E noA (va_P E.1 vwCl [])) qF (xT xIO noA (fun _ => True)) 1 6 noA := by
  refine mk_x (by decide) rfl (Nat.le_of_ble_eq_true rfl) ?_
  intro p e s m args below meth c hx hb hrt hml hts hown hlocks htb hK hKX hZ hP ls hl
  have hown : s.vm.findClass RX5 = some m.cls := hown
  have hl : lv_has ls 4 [(0, .ref a), (1, .int (I r)), (2, .int (I v)), (3, .int (I u))] := hl
  have hS : va_S noA s.heap s.heap [] := va_S.rf
  refine lv_iload_n hx hb dX5_setAnswer_0 rfl (lv_lk hl rfl) ?_
  exact x_callT (A1 := noA) (Po1 := fun _ => True) (vx_runS ⟨hx, hb, hml, hown, hts⟩ (x_requireRiddle l hl0 E r hr g9) (va_cwS 1 hts (gi_S ml_X5_73 st_X5_requireRiddle it_X5 cd_X5_requireRiddle) rfl rfl rfl (by decide +kernel) ⟨Nat.le_of_ble_eq_true rfl, Nat.le_of_ble_eq_true rfl⟩) (pX_S hK hKX hZ.none va_P_nil) rfl rfl hl.1 rfl (lv_room (Nat.le_of_ble_eq_true rfl)) dX5_setAnswer_1 ⟨Nat.le_of_ble_eq_true rfl, Nat.le_of_ble_eq_true rfl⟩) (fun _ h => h.elim) (fun _ _ _ _ => trivial) hS htb hlocks (Nat.le_of_ble_eq_true rfl) (Nat.le_of_ble_eq_true rfl)
set_option maxHeartbeats 4000000 in
set_option maxRecDepth 100000 in
theorem x_setAnswer_2 (l : Launch) (hl0 : l.stackTraces = false) (E : Env3) (a : Nat) (r v u : Int) (hr : -2147483648 ≤ r ∧ r ≤ 2147483647) (hv : -2147483648 ≤ v ∧ v ≤ 2147483647) (hu : -2147483648 ≤ u ∧ u ≤ 2147483647) (r8 : 0 ≤ r ∧ r ≤ 35) (g9 : ¬ (0 ≤ v ∧ v ≤ 99)) : vx_Met l yX5_setAnswer (Cond.code yX5_setAnswer cX5_setAnswer 4 (some .int) :: ALL) ({ frames := 7, cells := 1, slots := 6, locals := 173 }) (pX [.ref a, .int (I r), .int (I v), .int (I u)] E noA (va_P E.1 vwCl [])) qF (xT xIA noA (fun _ => True)) 1 6 noA := by
  refine mk_x (by decide) rfl (Nat.le_of_ble_eq_true rfl) ?_
  intro p e s m args below meth c hx hb hrt hml hts hown hlocks htb hK hKX hZ hP ls hl
  have hown : s.vm.findClass RX5 = some m.cls := hown
  have hl : lv_has ls 4 [(0, .ref a), (1, .int (I r)), (2, .int (I v)), (3, .int (I u))] := hl
  have hS : va_S noA s.heap s.heap [] := va_S.rf
  refine lv_iload_n hx hb dX5_setAnswer_0 rfl (lv_lk hl rfl) ?_
  refine call_S (va_runS ⟨hx, hb, hml, hown, hts⟩ (m_X5_requireRiddle_ok l E r (by omega)) (va_cwS 1 hts (gi_S ml_X5_73 st_X5_requireRiddle it_X5 cd_X5_requireRiddle) rfl rfl rfl (by decide +kernel) ⟨Nat.le_of_ble_eq_true rfl, Nat.le_of_ble_eq_true rfl⟩) (pR_S (hP.sub (ws' := []) [] rfl) hK) rfl rfl hl.1 rfl (lv_room (Nat.le_of_ble_eq_true rfl)) dX5_setAnswer_1 ⟨Nat.le_of_ble_eq_true rfl, Nat.le_of_ble_eq_true rfl⟩) (fun _ h => h) hS rfl (fun locs hS => ?_)
  refine lv_iload_n hx hb dX5_setAnswer_4 rfl (lv_lk hl rfl) ?_
  refine iv_iconst hx hb dX5_setAnswer_5 ?_
  refine iv_bipush hx hb dX5_setAnswer_6 (by decide +kernel) ?_
  exact x_callT (A1 := noA) (Po1 := fun _ => True) (vx_runS ⟨hx, hb, hml, hown, hts⟩ (x_requireRange l hl0 E v 0 99 (by omega) (by omega) (by omega) (by omega)) (va_cwS 3 hts (gi_S ml_X5_42 st_X5_requireRange it_X5 cd_X5_requireRange) rfl rfl rfl (by decide +kernel) ⟨Nat.le_of_ble_eq_true rfl, Nat.le_of_ble_eq_true rfl⟩) (pX_S hK hKX hZ.none va_P_nil) rfl rfl hl.1 rfl (lv_room (Nat.le_of_ble_eq_true rfl)) dX5_setAnswer_8 ⟨Nat.le_of_ble_eq_true rfl, Nat.le_of_ble_eq_true rfl⟩) (fun _ h => h.elim) (fun _ _ _ _ => trivial) hS htb hlocks (Nat.le_of_ble_eq_true rfl) (Nat.le_of_ble_eq_true rfl)
set_option maxHeartbeats 4000000 in
set_option maxRecDepth 100000 in
theorem x_setAnswer_3 (l : Launch) (hl0 : l.stackTraces = false) (E : Env3) (a : Nat) (r v u : Int) (hr : -2147483648 ≤ r ∧ r ≤ 2147483647) (hv : -2147483648 ≤ v ∧ v ≤ 2147483647) (hu : -2147483648 ≤ u ∧ u ≤ 2147483647) (r8 : 0 ≤ r ∧ r ≤ 35) (v8 : 0 ≤ v ∧ v ≤ 99) (g9 : ¬ (1 ≤ u ∧ u ≤ 99)) : vx_Met l yX5_setAnswer (Cond.code yX5_setAnswer cX5_setAnswer 4 (some .int) :: ALL) ({ frames := 7, cells := 1, slots := 6, locals := 173 }) (pX [.ref a, .int (I r), .int (I v), .int (I u)] E noA (va_P E.1 vwCl [])) qF (xT xIA noA (fun _ => True)) 1 6 noA := by
  refine mk_x (by decide) rfl (Nat.le_of_ble_eq_true rfl) ?_
  intro p e s m args below meth c hx hb hrt hml hts hown hlocks htb hK hKX hZ hP ls hl
  have hown : s.vm.findClass RX5 = some m.cls := hown
  have hl : lv_has ls 4 [(0, .ref a), (1, .int (I r)), (2, .int (I v)), (3, .int (I u))] := hl
  have hS : va_S noA s.heap s.heap [] := va_S.rf
  refine lv_iload_n hx hb dX5_setAnswer_0 rfl (lv_lk hl rfl) ?_
  refine call_S (va_runS ⟨hx, hb, hml, hown, hts⟩ (m_X5_requireRiddle_ok l E r (by omega)) (va_cwS 1 hts (gi_S ml_X5_73 st_X5_requireRiddle it_X5 cd_X5_requireRiddle) rfl rfl rfl (by decide +kernel) ⟨Nat.le_of_ble_eq_true rfl, Nat.le_of_ble_eq_true rfl⟩) (pR_S (hP.sub (ws' := []) [] rfl) hK) rfl rfl hl.1 rfl (lv_room (Nat.le_of_ble_eq_true rfl)) dX5_setAnswer_1 ⟨Nat.le_of_ble_eq_true rfl, Nat.le_of_ble_eq_true rfl⟩) (fun _ h => h) hS rfl (fun locs hS => ?_)
  refine lv_iload_n hx hb dX5_setAnswer_4 rfl (lv_lk hl rfl) ?_
  refine iv_iconst hx hb dX5_setAnswer_5 ?_
  refine iv_bipush hx hb dX5_setAnswer_6 (by decide +kernel) ?_
  refine call_S (va_runS ⟨hx, hb, hml, hown, hts⟩ (m_X5_requireRange_ok l E v 0 99 (by omega) (by omega) (by omega) (by omega)) (va_cwS 3 hts (gi_S ml_X5_42 st_X5_requireRange it_X5 cd_X5_requireRange) rfl rfl rfl (by decide +kernel) ⟨Nat.le_of_ble_eq_true rfl, Nat.le_of_ble_eq_true rfl⟩) (pR_S (hP.sub (ws' := []) [] rfl) hK) rfl rfl hl.1 rfl (lv_room (Nat.le_of_ble_eq_true rfl)) dX5_setAnswer_8 ⟨Nat.le_of_ble_eq_true rfl, Nat.le_of_ble_eq_true rfl⟩) (fun _ h => h) hS rfl (fun locs hS => ?_)
  refine lv_iload_n hx hb dX5_setAnswer_11 rfl (lv_lk hl rfl) ?_
  refine iv_iconst hx hb dX5_setAnswer_12 ?_
  refine iv_bipush hx hb dX5_setAnswer_13 (by decide +kernel) ?_
  exact x_callT (A1 := noA) (Po1 := fun _ => True) (vx_runS ⟨hx, hb, hml, hown, hts⟩ (x_requireRange l hl0 E u 1 99 (by omega) (by omega) (by omega) (by omega)) (va_cwS 3 hts (gi_S ml_X5_42 st_X5_requireRange it_X5 cd_X5_requireRange) rfl rfl rfl (by decide +kernel) ⟨Nat.le_of_ble_eq_true rfl, Nat.le_of_ble_eq_true rfl⟩) (pX_S hK hKX hZ.none va_P_nil) rfl rfl hl.1 rfl (lv_room (Nat.le_of_ble_eq_true rfl)) dX5_setAnswer_15 ⟨Nat.le_of_ble_eq_true rfl, Nat.le_of_ble_eq_true rfl⟩) (fun _ h => h.elim) (fun _ _ _ _ => trivial) hS htb hlocks (Nat.le_of_ble_eq_true rfl) (Nat.le_of_ble_eq_true rfl)
set_option maxHeartbeats 4000000 in
set_option maxRecDepth 100000 in
theorem x_setReference_1 (l : Launch) (hl0 : l.stackTraces = false) (E : Env3) (a : Nat) (r v u : Int) (hr : -2147483648 ≤ r ∧ r ≤ 2147483647) (hv : -2147483648 ≤ v ∧ v ≤ 2147483647) (hu : -2147483648 ≤ u ∧ u ≤ 2147483647) (g9 : ¬ (0 ≤ r ∧ r ≤ 35)) : vx_Met l yX5_setReference (Cond.code yX5_setReference cX5_setReference 4 (some .int) :: ALL) ({ frames := 7, cells := 1, slots := 6, locals := 173 }) (pX [.ref a, .int (I r), .int (I v), .int (I u)] E noA (va_P E.1 vwCl [])) qF (xT xIO noA (fun _ => True)) 1 6 noA := by
  refine mk_x (by decide) rfl (Nat.le_of_ble_eq_true rfl) ?_
  intro p e s m args below meth c hx hb hrt hml hts hown hlocks htb hK hKX hZ hP ls hl
  have hown : s.vm.findClass RX5 = some m.cls := hown
  have hl : lv_has ls 4 [(0, .ref a), (1, .int (I r)), (2, .int (I v)), (3, .int (I u))] := hl
  have hS : va_S noA s.heap s.heap [] := va_S.rf
  refine lv_iload_n hx hb dX5_setReference_0 rfl (lv_lk hl rfl) ?_
  exact x_callT (A1 := noA) (Po1 := fun _ => True) (vx_runS ⟨hx, hb, hml, hown, hts⟩ (x_requireRiddle l hl0 E r hr g9) (va_cwS 1 hts (gi_S ml_X5_73 st_X5_requireRiddle it_X5 cd_X5_requireRiddle) rfl rfl rfl (by decide +kernel) ⟨Nat.le_of_ble_eq_true rfl, Nat.le_of_ble_eq_true rfl⟩) (pX_S hK hKX hZ.none va_P_nil) rfl rfl hl.1 rfl (lv_room (Nat.le_of_ble_eq_true rfl)) dX5_setReference_1 ⟨Nat.le_of_ble_eq_true rfl, Nat.le_of_ble_eq_true rfl⟩) (fun _ h => h.elim) (fun _ _ _ _ => trivial) hS htb hlocks (Nat.le_of_ble_eq_true rfl) (Nat.le_of_ble_eq_true rfl)
set_option maxHeartbeats 4000000 in
set_option maxRecDepth 100000 in
theorem x_setReference_2 (l : Launch) (hl0 : l.stackTraces = false) (E : Env3) (a : Nat) (r v u : Int) (hr : -2147483648 ≤ r ∧ r ≤ 2147483647) (hv : -2147483648 ≤ v ∧ v ≤ 2147483647) (hu : -2147483648 ≤ u ∧ u ≤ 2147483647) (r8 : 0 ≤ r ∧ r ≤ 35) (g9 : ¬ (0 ≤ v ∧ v ≤ 35)) : vx_Met l yX5_setReference (Cond.code yX5_setReference cX5_setReference 4 (some .int) :: ALL) ({ frames := 7, cells := 1, slots := 6, locals := 173 }) (pX [.ref a, .int (I r), .int (I v), .int (I u)] E noA (va_P E.1 vwCl [])) qF (xT xIO noA (fun _ => True)) 1 6 noA := by
  refine mk_x (by decide) rfl (Nat.le_of_ble_eq_true rfl) ?_
  intro p e s m args below meth c hx hb hrt hml hts hown hlocks htb hK hKX hZ hP ls hl
  have hown : s.vm.findClass RX5 = some m.cls := hown
  have hl : lv_has ls 4 [(0, .ref a), (1, .int (I r)), (2, .int (I v)), (3, .int (I u))] := hl
  have hS : va_S noA s.heap s.heap [] := va_S.rf
  refine lv_iload_n hx hb dX5_setReference_0 rfl (lv_lk hl rfl) ?_
  refine call_S (va_runS ⟨hx, hb, hml, hown, hts⟩ (m_X5_requireRiddle_ok l E r (by omega)) (va_cwS 1 hts (gi_S ml_X5_73 st_X5_requireRiddle it_X5 cd_X5_requireRiddle) rfl rfl rfl (by decide +kernel) ⟨Nat.le_of_ble_eq_true rfl, Nat.le_of_ble_eq_true rfl⟩) (pR_S (hP.sub (ws' := []) [] rfl) hK) rfl rfl hl.1 rfl (lv_room (Nat.le_of_ble_eq_true rfl)) dX5_setReference_1 ⟨Nat.le_of_ble_eq_true rfl, Nat.le_of_ble_eq_true rfl⟩) (fun _ h => h) hS rfl (fun locs hS => ?_)
  refine lv_iload_n hx hb dX5_setReference_4 rfl (lv_lk hl rfl) ?_
  exact x_callT (A1 := noA) (Po1 := fun _ => True) (vx_runS ⟨hx, hb, hml, hown, hts⟩ (x_requireRiddle l hl0 E v hv g9) (va_cwS 1 hts (gi_S ml_X5_73 st_X5_requireRiddle it_X5 cd_X5_requireRiddle) rfl rfl rfl (by decide +kernel) ⟨Nat.le_of_ble_eq_true rfl, Nat.le_of_ble_eq_true rfl⟩) (pX_S hK hKX hZ.none va_P_nil) rfl rfl hl.1 rfl (lv_room (Nat.le_of_ble_eq_true rfl)) dX5_setReference_5 ⟨Nat.le_of_ble_eq_true rfl, Nat.le_of_ble_eq_true rfl⟩) (fun _ h => h.elim) (fun _ _ _ _ => trivial) hS htb hlocks (Nat.le_of_ble_eq_true rfl) (Nat.le_of_ble_eq_true rfl)
set_option maxHeartbeats 4000000 in
set_option maxRecDepth 100000 in
theorem x_setReference_3 (l : Launch) (hl0 : l.stackTraces = false) (E : Env3) (a : Nat) (r v u : Int) (hr : -2147483648 ≤ r ∧ r ≤ 2147483647) (hv : -2147483648 ≤ v ∧ v ≤ 2147483647) (hu : -2147483648 ≤ u ∧ u ≤ 2147483647) (r8 : 0 ≤ r ∧ r ≤ 35) (v8 : v = r) : vx_Met l yX5_setReference (Cond.code yX5_setReference cX5_setReference 4 (some .int) :: ALL) ({ frames := 7, cells := 1, slots := 6, locals := 173 }) (pX [.ref a, .int (I r), .int (I v), .int (I u)] E noA (va_P E.1 vwCl [])) qF (xT xIA noA (fun _ => True)) 1 6 noA := by
  refine mk_x (by decide) rfl (Nat.le_of_ble_eq_true rfl) ?_
  intro p e s m args below meth c hx hb hrt hml hts hown hlocks htb hK hKX hZ hP ls hl
  have hown : s.vm.findClass RX5 = some m.cls := hown
  have hl : lv_has ls 4 [(0, .ref a), (1, .int (I r)), (2, .int (I v)), (3, .int (I u))] := hl
  have hS : va_S noA s.heap s.heap [] := va_S.rf
  refine lv_iload_n hx hb dX5_setReference_0 rfl (lv_lk hl rfl) ?_
  refine call_S (va_runS ⟨hx, hb, hml, hown, hts⟩ (m_X5_requireRiddle_ok l E r (by omega)) (va_cwS 1 hts (gi_S ml_X5_73 st_X5_requireRiddle it_X5 cd_X5_requireRiddle) rfl rfl rfl (by decide +kernel) ⟨Nat.le_of_ble_eq_true rfl, Nat.le_of_ble_eq_true rfl⟩) (pR_S (hP.sub (ws' := []) [] rfl) hK) rfl rfl hl.1 rfl (lv_room (Nat.le_of_ble_eq_true rfl)) dX5_setReference_1 ⟨Nat.le_of_ble_eq_true rfl, Nat.le_of_ble_eq_true rfl⟩) (fun _ h => h) hS rfl (fun locs hS => ?_)
  refine lv_iload_n hx hb dX5_setReference_4 rfl (lv_lk hl rfl) ?_
  refine call_S (va_runS ⟨hx, hb, hml, hown, hts⟩ (m_X5_requireRiddle_ok l E v (by omega)) (va_cwS 1 hts (gi_S ml_X5_73 st_X5_requireRiddle it_X5 cd_X5_requireRiddle) rfl rfl rfl (by decide +kernel) ⟨Nat.le_of_ble_eq_true rfl, Nat.le_of_ble_eq_true rfl⟩) (pR_S (hP.sub (ws' := []) [] rfl) hK) rfl rfl hl.1 rfl (lv_room (Nat.le_of_ble_eq_true rfl)) dX5_setReference_5 ⟨Nat.le_of_ble_eq_true rfl, Nat.le_of_ble_eq_true rfl⟩) (fun _ h => h) hS rfl (fun locs hS => ?_)
  refine lv_iload_n hx hb dX5_setReference_8 rfl (lv_lk hl rfl) ?_
  refine lv_iload_n hx hb dX5_setReference_9 rfl (lv_lk hl rfl) ?_
  refine iv_icmp_ne (tgt := 23) hx hb dX5_setReference_10 (by decide) (by omega) (by omega) (fun c_10 => by exfalso; omega) (fun c_10 => ?_)
  exact x_throwS hx hb hl0 xIA_ok hown hml hl hts hKX hZ hS (fun _ _ _ => trivial) htb hlocks (List.mem_of_getElem? (i := 4) rfl) dX5_setReference_13 dX5_setReference_16 dX5_setReference_17 dX5_setReference_19 dX5_setReference_22 ⟨Nat.le_of_ble_eq_true rfl, Nat.le_of_ble_eq_true rfl, Nat.le_of_ble_eq_true rfl, Nat.le_of_ble_eq_true rfl⟩ (Nat.le_of_ble_eq_true rfl) (Nat.le_of_ble_eq_true rfl)
set_option maxHeartbeats 4000000 in
set_option maxRecDepth 100000 in
theorem x_setReference_4 (l : Launch) (hl0 : l.stackTraces = false) (E : Env3) (a : Nat) (r v u : Int) (hr : -2147483648 ≤ r ∧ r ≤ 2147483647) (hv : -2147483648 ≤ v ∧ v ≤ 2147483647) (hu : -2147483648 ≤ u ∧ u ≤ 2147483647) (r8 : 0 ≤ r ∧ r ≤ 35) (v8 : 0 ≤ v ∧ v ≤ 35) (v7 : v ≠ r) (g9 : ¬ (1 ≤ u ∧ u ≤ 99)) : vx_Met l yX5_setReference (Cond.code yX5_setReference cX5_setReference 4 (some .int) :: ALL) ({ frames := 7, cells := 1, slots := 6, locals := 173 }) (pX [.ref a, .int (I r), .int (I v), .int (I u)] E noA (va_P E.1 vwCl [])) qF (xT xIA noA (fun _ => True)) 1 6 noA := by
  refine mk_x (by decide) rfl (Nat.le_of_ble_eq_true rfl) ?_
  intro p e s m args below meth c hx hb hrt hml hts hown hlocks htb hK hKX hZ hP ls hl
  have hown : s.vm.findClass RX5 = some m.cls := hown
  have hl : lv_has ls 4 [(0, .ref a), (1, .int (I r)), (2, .int (I v)), (3, .int (I u))] := hl
  have hS : va_S noA s.heap s.heap [] := va_S.rf
  refine lv_iload_n hx hb dX5_setReference_0 rfl (lv_lk hl rfl) ?_
  refine call_S (va_runS ⟨hx, hb, hml, hown, hts⟩ (m_X5_requireRiddle_ok l E r (by omega)) (va_cwS 1 hts (gi_S ml_X5_73 st_X5_requireRiddle it_X5 cd_X5_requireRiddle) rfl rfl rfl (by decide +kernel) ⟨Nat.le_of_ble_eq_true rfl, Nat.le_of_ble_eq_true rfl⟩) (pR_S (hP.sub (ws' := []) [] rfl) hK) rfl rfl hl.1 rfl (lv_room (Nat.le_of_ble_eq_true rfl)) dX5_setReference_1 ⟨Nat.le_of_ble_eq_true rfl, Nat.le_of_ble_eq_true rfl⟩) (fun _ h => h) hS rfl (fun locs hS => ?_)
  refine lv_iload_n hx hb dX5_setReference_4 rfl (lv_lk hl rfl) ?_
  refine call_S (va_runS ⟨hx, hb, hml, hown, hts⟩ (m_X5_requireRiddle_ok l E v (by omega)) (va_cwS 1 hts (gi_S ml_X5_73 st_X5_requireRiddle it_X5 cd_X5_requireRiddle) rfl rfl rfl (by decide +kernel) ⟨Nat.le_of_ble_eq_true rfl, Nat.le_of_ble_eq_true rfl⟩) (pR_S (hP.sub (ws' := []) [] rfl) hK) rfl rfl hl.1 rfl (lv_room (Nat.le_of_ble_eq_true rfl)) dX5_setReference_5 ⟨Nat.le_of_ble_eq_true rfl, Nat.le_of_ble_eq_true rfl⟩) (fun _ h => h) hS rfl (fun locs hS => ?_)
  refine lv_iload_n hx hb dX5_setReference_8 rfl (lv_lk hl rfl) ?_
  refine lv_iload_n hx hb dX5_setReference_9 rfl (lv_lk hl rfl) ?_
  refine iv_icmp_ne (tgt := 23) hx hb dX5_setReference_10 (by decide) (by omega) (by omega) (fun c_10 => ?_) (fun c_10 => by exfalso; omega)
  refine lv_iload_n hx hb dX5_setReference_23 rfl (lv_lk hl rfl) ?_
  refine iv_iconst hx hb dX5_setReference_24 ?_
  refine iv_bipush hx hb dX5_setReference_25 (by decide +kernel) ?_
  exact x_callT (A1 := noA) (Po1 := fun _ => True) (vx_runS ⟨hx, hb, hml, hown, hts⟩ (x_requireRange l hl0 E u 1 99 (by omega) (by omega) (by omega) (by omega)) (va_cwS 3 hts (gi_S ml_X5_42 st_X5_requireRange it_X5 cd_X5_requireRange) rfl rfl rfl (by decide +kernel) ⟨Nat.le_of_ble_eq_true rfl, Nat.le_of_ble_eq_true rfl⟩) (pX_S hK hKX hZ.none va_P_nil) rfl rfl hl.1 rfl (lv_room (Nat.le_of_ble_eq_true rfl)) dX5_setReference_27 ⟨Nat.le_of_ble_eq_true rfl, Nat.le_of_ble_eq_true rfl⟩) (fun _ h => h.elim) (fun _ _ _ _ => trivial) hS htb hlocks (Nat.le_of_ble_eq_true rfl) (Nat.le_of_ble_eq_true rfl)
set_option maxHeartbeats 4000000 in
set_option maxRecDepth 100000 in
theorem x_parentOf (l : Launch) (hl0 : l.stackTraces = false) (E : Env3) (a : Nat) (z : Int) (hz : -2147483648 ≤ z ∧ z ≤ 2147483647) (g9 : ¬ (0 ≤ z ∧ z ≤ 5)) : vx_Met l yX5_parentOf (Cond.code yX5_parentOf cX5_parentOf 2 (some .int) :: ALL) ({ frames := 7, cells := 1, slots := 6, locals := 102 }) (pX [.ref a, .int (I z)] E noA (va_P E.1 vwCl [])) qF (xT xIO noA (fun _ => True)) 1 6 noA := by
  refine mk_x (by decide) rfl (Nat.le_of_ble_eq_true rfl) ?_
  intro p e s m args below meth c hx hb hrt hml hts hown hlocks htb hK hKX hZ hP ls hl
  have hown : s.vm.findClass RX5 = some m.cls := hown
  have hl : lv_has ls 2 [(0, .ref a), (1, .int (I z))] := hl
  have hS : va_S noA s.heap s.heap [] := va_S.rf
  refine lv_iload_n hx hb dX5_parentOf_0 rfl (lv_lk hl rfl) ?_
  exact x_callT (A1 := noA) (Po1 := fun _ => True) (vx_runS ⟨hx, hb, hml, hown, hts⟩ (x_requireZone l hl0 E z hz g9) (va_cwS 1 hts (gi_S ml_X5_31 st_X5_requireZone it_X5 cd_X5_requireZone) rfl rfl rfl (by decide +kernel) ⟨Nat.le_of_ble_eq_true rfl, Nat.le_of_ble_eq_true rfl⟩) (pX_S hK hKX hZ.none va_P_nil) rfl rfl hl.1 rfl (lv_room (Nat.le_of_ble_eq_true rfl)) dX5_parentOf_1 ⟨Nat.le_of_ble_eq_true rfl, Nat.le_of_ble_eq_true rfl⟩) (fun _ h => h.elim) (fun _ _ _ _ => trivial) hS htb hlocks (Nat.le_of_ble_eq_true rfl) (Nat.le_of_ble_eq_true rfl)
set_option maxHeartbeats 4000000 in
set_option maxRecDepth 100000 in
theorem x_depthOf (l : Launch) (hl0 : l.stackTraces = false) (E : Env3) (a : Nat) (z : Int) (hz : -2147483648 ≤ z ∧ z ≤ 2147483647) (g9 : ¬ (0 ≤ z ∧ z ≤ 5)) : vx_Met l yX5_depthOf (Cond.code yX5_depthOf cX5_depthOf 2 (some .int) :: ALL) ({ frames := 7, cells := 1, slots := 6, locals := 102 }) (pX [.ref a, .int (I z)] E noA (va_P E.1 vwCl [])) qF (xT xIO noA (fun _ => True)) 1 6 noA := by
  refine mk_x (by decide) rfl (Nat.le_of_ble_eq_true rfl) ?_
  intro p e s m args below meth c hx hb hrt hml hts hown hlocks htb hK hKX hZ hP ls hl
  have hown : s.vm.findClass RX5 = some m.cls := hown
  have hl : lv_has ls 2 [(0, .ref a), (1, .int (I z))] := hl
  have hS : va_S noA s.heap s.heap [] := va_S.rf
  refine lv_iload_n hx hb dX5_depthOf_0 rfl (lv_lk hl rfl) ?_
  exact x_callT (A1 := noA) (Po1 := fun _ => True) (vx_runS ⟨hx, hb, hml, hown, hts⟩ (x_requireZone l hl0 E z hz g9) (va_cwS 1 hts (gi_S ml_X5_31 st_X5_requireZone it_X5 cd_X5_requireZone) rfl rfl rfl (by decide +kernel) ⟨Nat.le_of_ble_eq_true rfl, Nat.le_of_ble_eq_true rfl⟩) (pX_S hK hKX hZ.none va_P_nil) rfl rfl hl.1 rfl (lv_room (Nat.le_of_ble_eq_true rfl)) dX5_depthOf_1 ⟨Nat.le_of_ble_eq_true rfl, Nat.le_of_ble_eq_true rfl⟩) (fun _ h => h.elim) (fun _ _ _ _ => trivial) hS htb hlocks (Nat.le_of_ble_eq_true rfl) (Nat.le_of_ble_eq_true rfl)
set_option maxHeartbeats 4000000 in
set_option maxRecDepth 100000 in
theorem x_referralLeft (l : Launch) (hl0 : l.stackTraces = false) (E : Env3) (a : Nat) (z : Int) (hz : -2147483648 ≤ z ∧ z ≤ 2147483647) (g9 : ¬ (0 ≤ z ∧ z ≤ 5)) : vx_Met l yX5_referralLeft (Cond.code yX5_referralLeft cX5_referralLeft 2 (some .int) :: ALL) ({ frames := 7, cells := 1, slots := 6, locals := 102 }) (pX [.ref a, .int (I z)] E noA (va_P E.1 vwCl [])) qF (xT xIO noA (fun _ => True)) 1 6 noA := by
  refine mk_x (by decide) rfl (Nat.le_of_ble_eq_true rfl) ?_
  intro p e s m args below meth c hx hb hrt hml hts hown hlocks htb hK hKX hZ hP ls hl
  have hown : s.vm.findClass RX5 = some m.cls := hown
  have hl : lv_has ls 2 [(0, .ref a), (1, .int (I z))] := hl
  have hS : va_S noA s.heap s.heap [] := va_S.rf
  refine lv_iload_n hx hb dX5_referralLeft_0 rfl (lv_lk hl rfl) ?_
  exact x_callT (A1 := noA) (Po1 := fun _ => True) (vx_runS ⟨hx, hb, hml, hown, hts⟩ (x_requireZone l hl0 E z hz g9) (va_cwS 1 hts (gi_S ml_X5_31 st_X5_requireZone it_X5 cd_X5_requireZone) rfl rfl rfl (by decide +kernel) ⟨Nat.le_of_ble_eq_true rfl, Nat.le_of_ble_eq_true rfl⟩) (pX_S hK hKX hZ.none va_P_nil) rfl rfl hl.1 rfl (lv_room (Nat.le_of_ble_eq_true rfl)) dX5_referralLeft_1 ⟨Nat.le_of_ble_eq_true rfl, Nat.le_of_ble_eq_true rfl⟩) (fun _ h => h.elim) (fun _ _ _ _ => trivial) hS htb hlocks (Nat.le_of_ble_eq_true rfl) (Nat.le_of_ble_eq_true rfl)
set_option maxHeartbeats 4000000 in
set_option maxRecDepth 100000 in
theorem x_questionsTo (l : Launch) (hl0 : l.stackTraces = false) (E : Env3) (a : Nat) (z : Int) (hz : -2147483648 ≤ z ∧ z ≤ 2147483647) (g9 : ¬ (0 ≤ z ∧ z ≤ 5)) : vx_Met l yX5_questionsTo (Cond.code yX5_questionsTo cX5_questionsTo 2 (some .int) :: ALL) ({ frames := 7, cells := 1, slots := 6, locals := 102 }) (pX [.ref a, .int (I z)] E noA (va_P E.1 vwCl [])) qF (xT xIO noA (fun _ => True)) 1 6 noA := by
  refine mk_x (by decide) rfl (Nat.le_of_ble_eq_true rfl) ?_
  intro p e s m args below meth c hx hb hrt hml hts hown hlocks htb hK hKX hZ hP ls hl
  have hown : s.vm.findClass RX5 = some m.cls := hown
  have hl : lv_has ls 2 [(0, .ref a), (1, .int (I z))] := hl
  have hS : va_S noA s.heap s.heap [] := va_S.rf
  refine lv_iload_n hx hb dX5_questionsTo_0 rfl (lv_lk hl rfl) ?_
  exact x_callT (A1 := noA) (Po1 := fun _ => True) (vx_runS ⟨hx, hb, hml, hown, hts⟩ (x_requireZone l hl0 E z hz g9) (va_cwS 1 hts (gi_S ml_X5_31 st_X5_requireZone it_X5 cd_X5_requireZone) rfl rfl rfl (by decide +kernel) ⟨Nat.le_of_ble_eq_true rfl, Nat.le_of_ble_eq_true rfl⟩) (pX_S hK hKX hZ.none va_P_nil) rfl rfl hl.1 rfl (lv_room (Nat.le_of_ble_eq_true rfl)) dX5_questionsTo_1 ⟨Nat.le_of_ble_eq_true rfl, Nat.le_of_ble_eq_true rfl⟩) (fun _ h => h.elim) (fun _ _ _ _ => trivial) hS htb hlocks (Nat.le_of_ble_eq_true rfl) (Nat.le_of_ble_eq_true rfl)
set_option maxHeartbeats 4000000 in
set_option maxRecDepth 100000 in
theorem x_takeAway_1 (l : Launch) (hl0 : l.stackTraces = false) (E : Env3) (a : Nat) (r : Int) (hr : -2147483648 ≤ r ∧ r ≤ 2147483647) (g9 : ¬ (0 ≤ r ∧ r ≤ 35)) : vx_Met l yX5_takeAway (Cond.code yX5_takeAway cX5_takeAway 2 (some .int) :: ALL) ({ frames := 7, cells := 1, slots := 6, locals := 173 }) (pX [.ref a, .int (I r)] E noA (va_P E.1 vwCl [])) qF (xT xIO noA (fun _ => True)) 1 6 noA := by
  refine mk_x (by decide) rfl (Nat.le_of_ble_eq_true rfl) ?_
  intro p e s m args below meth c hx hb hrt hml hts hown hlocks htb hK hKX hZ hP ls hl
  have hown : s.vm.findClass RX5 = some m.cls := hown
  have hl : lv_has ls 2 [(0, .ref a), (1, .int (I r))] := hl
  have hS : va_S noA s.heap s.heap [] := va_S.rf
  refine lv_iload_n hx hb dX5_takeAway_0 rfl (lv_lk hl rfl) ?_
  exact x_callT (A1 := noA) (Po1 := fun _ => True) (vx_runS ⟨hx, hb, hml, hown, hts⟩ (x_requireRiddle l hl0 E r hr g9) (va_cwS 1 hts (gi_S ml_X5_73 st_X5_requireRiddle it_X5 cd_X5_requireRiddle) rfl rfl rfl (by decide +kernel) ⟨Nat.le_of_ble_eq_true rfl, Nat.le_of_ble_eq_true rfl⟩) (pX_S hK hKX hZ.none va_P_nil) rfl rfl hl.1 rfl (lv_room (Nat.le_of_ble_eq_true rfl)) dX5_takeAway_1 ⟨Nat.le_of_ble_eq_true rfl, Nat.le_of_ble_eq_true rfl⟩) (fun _ h => h.elim) (fun _ _ _ _ => trivial) hS htb hlocks (Nat.le_of_ble_eq_true rfl) (Nat.le_of_ble_eq_true rfl)
set_option maxHeartbeats 4000000 in
set_option maxRecDepth 100000 in
theorem x_solve (l : Launch) (hl0 : l.stackTraces = false) (E : Env3) (a : Nat) (r : Int) (hr : -2147483648 ≤ r ∧ r ≤ 2147483647) (g9 : ¬ (0 ≤ r ∧ r ≤ 35)) : vx_Met l yX5_solve (Cond.code yX5_solve cX5_solve 2 (some .int) :: ALL) ({ frames := 7, cells := 1, slots := 6, locals := 148 }) (pX [.ref a, .int (I r)] E noA (va_P E.1 vwCl [])) qF (xT xIO noA (fun _ => True)) 1 6 noA := by
  refine mk_x (by decide) rfl (Nat.le_of_ble_eq_true rfl) ?_
  intro p e s m args below meth c hx hb hrt hml hts hown hlocks htb hK hKX hZ hP ls hl
  have hown : s.vm.findClass RX5 = some m.cls := hown
  have hl : lv_has ls 2 [(0, .ref a), (1, .int (I r))] := hl
  have hS : va_S noA s.heap s.heap [] := va_S.rf
  refine lv_iload_n hx hb dX5_solve_0 rfl (lv_lk hl rfl) ?_
  exact x_callT (A1 := noA) (Po1 := fun _ => True) (vx_runS ⟨hx, hb, hml, hown, hts⟩ (x_requireRiddle l hl0 E r hr g9) (va_cwS 1 hts (gi_S ml_X5_73 st_X5_requireRiddle it_X5 cd_X5_requireRiddle) rfl rfl rfl (by decide +kernel) ⟨Nat.le_of_ble_eq_true rfl, Nat.le_of_ble_eq_true rfl⟩) (pX_S hK hKX hZ.none va_P_nil) rfl rfl hl.1 rfl (lv_room (Nat.le_of_ble_eq_true rfl)) dX5_solve_1 ⟨Nat.le_of_ble_eq_true rfl, Nat.le_of_ble_eq_true rfl⟩) (fun _ h => h.elim) (fun _ _ _ _ => trivial) hS htb hlocks (Nat.le_of_ble_eq_true rfl) (Nat.le_of_ble_eq_true rfl)
set_option maxHeartbeats 4000000 in
set_option maxRecDepth 100000 in
theorem x_forget_1 (l : Launch) (hl0 : l.stackTraces = false) (E : Env3) (a : Nat) (r : Int) (hr : -2147483648 ≤ r ∧ r ≤ 2147483647) (g9 : ¬ (0 ≤ r ∧ r ≤ 35)) : vx_Met l yX5_forget (Cond.code yX5_forget cX5_forget 3 (some .int) :: ALL) ({ frames := 7, cells := 1, slots := 6, locals := 148 }) (pX [.ref a, .int (I r)] E noA (va_P E.1 vwCl [])) qF (xT xIO noA (fun _ => True)) 1 6 noA := by
  refine mk_x (by decide) rfl (Nat.le_of_ble_eq_true rfl) ?_
  intro p e s m args below meth c hx hb hrt hml hts hown hlocks htb hK hKX hZ hP ls hl
  have hown : s.vm.findClass RX5 = some m.cls := hown
  have hl : lv_has ls 3 [(0, .ref a), (1, .int (I r))] := hl
  have hS : va_S noA s.heap s.heap [] := va_S.rf
  refine lv_iload_n hx hb dX5_forget_0 rfl (lv_lk hl rfl) ?_
  exact x_callT (A1 := noA) (Po1 := fun _ => True) (vx_runS ⟨hx, hb, hml, hown, hts⟩ (x_requireRiddle l hl0 E r hr g9) (va_cwS 1 hts (gi_S ml_X5_73 st_X5_requireRiddle it_X5 cd_X5_requireRiddle) rfl rfl rfl (by decide +kernel) ⟨Nat.le_of_ble_eq_true rfl, Nat.le_of_ble_eq_true rfl⟩) (pX_S hK hKX hZ.none va_P_nil) rfl rfl hl.1 rfl (lv_room (Nat.le_of_ble_eq_true rfl)) dX5_forget_1 ⟨Nat.le_of_ble_eq_true rfl, Nat.le_of_ble_eq_true rfl⟩) (fun _ h => h.elim) (fun _ _ _ _ => trivial) hS htb hlocks (Nat.le_of_ble_eq_true rfl) (Nat.le_of_ble_eq_true rfl)
set_option maxHeartbeats 4000000 in
set_option maxRecDepth 100000 in
theorem x_kindOf (l : Launch) (hl0 : l.stackTraces = false) (E : Env3) (a : Nat) (r : Int) (hr : -2147483648 ≤ r ∧ r ≤ 2147483647) (g9 : ¬ (0 ≤ r ∧ r ≤ 35)) : vx_Met l yX5_kindOf (Cond.code yX5_kindOf cX5_kindOf 2 (some .int) :: ALL) ({ frames := 7, cells := 1, slots := 6, locals := 102 }) (pX [.ref a, .int (I r)] E noA (va_P E.1 vwCl [])) qF (xT xIO noA (fun _ => True)) 1 6 noA := by
  refine mk_x (by decide) rfl (Nat.le_of_ble_eq_true rfl) ?_
  intro p e s m args below meth c hx hb hrt hml hts hown hlocks htb hK hKX hZ hP ls hl
  have hown : s.vm.findClass RX5 = some m.cls := hown
  have hl : lv_has ls 2 [(0, .ref a), (1, .int (I r))] := hl
  have hS : va_S noA s.heap s.heap [] := va_S.rf
  refine lv_iload_n hx hb dX5_kindOf_0 rfl (lv_lk hl rfl) ?_
  exact x_callT (A1 := noA) (Po1 := fun _ => True) (vx_runS ⟨hx, hb, hml, hown, hts⟩ (x_requireRiddle l hl0 E r hr g9) (va_cwS 1 hts (gi_S ml_X5_73 st_X5_requireRiddle it_X5 cd_X5_requireRiddle) rfl rfl rfl (by decide +kernel) ⟨Nat.le_of_ble_eq_true rfl, Nat.le_of_ble_eq_true rfl⟩) (pX_S hK hKX hZ.none va_P_nil) rfl rfl hl.1 rfl (lv_room (Nat.le_of_ble_eq_true rfl)) dX5_kindOf_1 ⟨Nat.le_of_ble_eq_true rfl, Nat.le_of_ble_eq_true rfl⟩) (fun _ h => h.elim) (fun _ _ _ _ => trivial) hS htb hlocks (Nat.le_of_ble_eq_true rfl) (Nat.le_of_ble_eq_true rfl)
set_option maxHeartbeats 4000000 in
set_option maxRecDepth 100000 in
theorem x_valueOf (l : Launch) (hl0 : l.stackTraces = false) (E : Env3) (a : Nat) (r : Int) (hr : -2147483648 ≤ r ∧ r ≤ 2147483647) (g9 : ¬ (0 ≤ r ∧ r ≤ 35)) : vx_Met l yX5_valueOf (Cond.code yX5_valueOf cX5_valueOf 2 (some .int) :: ALL) ({ frames := 7, cells := 1, slots := 6, locals := 102 }) (pX [.ref a, .int (I r)] E noA (va_P E.1 vwCl [])) qF (xT xIO noA (fun _ => True)) 1 6 noA := by
  refine mk_x (by decide) rfl (Nat.le_of_ble_eq_true rfl) ?_
  intro p e s m args below meth c hx hb hrt hml hts hown hlocks htb hK hKX hZ hP ls hl
  have hown : s.vm.findClass RX5 = some m.cls := hown
  have hl : lv_has ls 2 [(0, .ref a), (1, .int (I r))] := hl
  have hS : va_S noA s.heap s.heap [] := va_S.rf
  refine lv_iload_n hx hb dX5_valueOf_0 rfl (lv_lk hl rfl) ?_
  exact x_callT (A1 := noA) (Po1 := fun _ => True) (vx_runS ⟨hx, hb, hml, hown, hts⟩ (x_requireRiddle l hl0 E r hr g9) (va_cwS 1 hts (gi_S ml_X5_73 st_X5_requireRiddle it_X5 cd_X5_requireRiddle) rfl rfl rfl (by decide +kernel) ⟨Nat.le_of_ble_eq_true rfl, Nat.le_of_ble_eq_true rfl⟩) (pX_S hK hKX hZ.none va_P_nil) rfl rfl hl.1 rfl (lv_room (Nat.le_of_ble_eq_true rfl)) dX5_valueOf_1 ⟨Nat.le_of_ble_eq_true rfl, Nat.le_of_ble_eq_true rfl⟩) (fun _ h => h.elim) (fun _ _ _ _ => trivial) hS htb hlocks (Nat.le_of_ble_eq_true rfl) (Nat.le_of_ble_eq_true rfl)
set_option maxHeartbeats 4000000 in
set_option maxRecDepth 100000 in
theorem x_truthOf (l : Launch) (hl0 : l.stackTraces = false) (E : Env3) (a : Nat) (r : Int) (hr : -2147483648 ≤ r ∧ r ≤ 2147483647) (g9 : ¬ (0 ≤ r ∧ r ≤ 35)) : vx_Met l yX5_truthOf (Cond.code yX5_truthOf cX5_truthOf 2 (some .int) :: ALL) ({ frames := 7, cells := 1, slots := 6, locals := 102 }) (pX [.ref a, .int (I r)] E noA (va_P E.1 vwCl [])) qF (xT xIO noA (fun _ => True)) 1 6 noA := by
  refine mk_x (by decide) rfl (Nat.le_of_ble_eq_true rfl) ?_
  intro p e s m args below meth c hx hb hrt hml hts hown hlocks htb hK hKX hZ hP ls hl
  have hown : s.vm.findClass RX5 = some m.cls := hown
  have hl : lv_has ls 2 [(0, .ref a), (1, .int (I r))] := hl
  have hS : va_S noA s.heap s.heap [] := va_S.rf
  refine lv_iload_n hx hb dX5_truthOf_0 rfl (lv_lk hl rfl) ?_
  exact x_callT (A1 := noA) (Po1 := fun _ => True) (vx_runS ⟨hx, hb, hml, hown, hts⟩ (x_requireRiddle l hl0 E r hr g9) (va_cwS 1 hts (gi_S ml_X5_73 st_X5_requireRiddle it_X5 cd_X5_requireRiddle) rfl rfl rfl (by decide +kernel) ⟨Nat.le_of_ble_eq_true rfl, Nat.le_of_ble_eq_true rfl⟩) (pX_S hK hKX hZ.none va_P_nil) rfl rfl hl.1 rfl (lv_room (Nat.le_of_ble_eq_true rfl)) dX5_truthOf_1 ⟨Nat.le_of_ble_eq_true rfl, Nat.le_of_ble_eq_true rfl⟩) (fun _ h => h.elim) (fun _ _ _ _ => trivial) hS htb hlocks (Nat.le_of_ble_eq_true rfl) (Nat.le_of_ble_eq_true rfl)
set_option maxHeartbeats 4000000 in
set_option maxRecDepth 100000 in
theorem x_rememberedOf (l : Launch) (hl0 : l.stackTraces = false) (E : Env3) (a : Nat) (r : Int) (hr : -2147483648 ≤ r ∧ r ≤ 2147483647) (g9 : ¬ (0 ≤ r ∧ r ≤ 35)) : vx_Met l yX5_rememberedOf (Cond.code yX5_rememberedOf cX5_rememberedOf 2 (some .int) :: ALL) ({ frames := 7, cells := 1, slots := 6, locals := 102 }) (pX [.ref a, .int (I r)] E noA (va_P E.1 vwCl [])) qF (xT xIO noA (fun _ => True)) 1 6 noA := by
  refine mk_x (by decide) rfl (Nat.le_of_ble_eq_true rfl) ?_
  intro p e s m args below meth c hx hb hrt hml hts hown hlocks htb hK hKX hZ hP ls hl
  have hown : s.vm.findClass RX5 = some m.cls := hown
  have hl : lv_has ls 2 [(0, .ref a), (1, .int (I r))] := hl
  have hS : va_S noA s.heap s.heap [] := va_S.rf
  refine lv_iload_n hx hb dX5_rememberedOf_0 rfl (lv_lk hl rfl) ?_
  exact x_callT (A1 := noA) (Po1 := fun _ => True) (vx_runS ⟨hx, hb, hml, hown, hts⟩ (x_requireRiddle l hl0 E r hr g9) (va_cwS 1 hts (gi_S ml_X5_73 st_X5_requireRiddle it_X5 cd_X5_requireRiddle) rfl rfl rfl (by decide +kernel) ⟨Nat.le_of_ble_eq_true rfl, Nat.le_of_ble_eq_true rfl⟩) (pX_S hK hKX hZ.none va_P_nil) rfl rfl hl.1 rfl (lv_room (Nat.le_of_ble_eq_true rfl)) dX5_rememberedOf_1 ⟨Nat.le_of_ble_eq_true rfl, Nat.le_of_ble_eq_true rfl⟩) (fun _ h => h.elim) (fun _ _ _ _ => trivial) hS htb hlocks (Nat.le_of_ble_eq_true rfl) (Nat.le_of_ble_eq_true rfl)
set_option maxHeartbeats 4000000 in
set_option maxRecDepth 100000 in
theorem x_ticksLeftOf (l : Launch) (hl0 : l.stackTraces = false) (E : Env3) (a : Nat) (r : Int) (hr : -2147483648 ≤ r ∧ r ≤ 2147483647) (g9 : ¬ (0 ≤ r ∧ r ≤ 35)) : vx_Met l yX5_ticksLeftOf (Cond.code yX5_ticksLeftOf cX5_ticksLeftOf 2 (some .int) :: ALL) ({ frames := 7, cells := 1, slots := 6, locals := 102 }) (pX [.ref a, .int (I r)] E noA (va_P E.1 vwCl [])) qF (xT xIO noA (fun _ => True)) 1 6 noA := by
  refine mk_x (by decide) rfl (Nat.le_of_ble_eq_true rfl) ?_
  intro p e s m args below meth c hx hb hrt hml hts hown hlocks htb hK hKX hZ hP ls hl
  have hown : s.vm.findClass RX5 = some m.cls := hown
  have hl : lv_has ls 2 [(0, .ref a), (1, .int (I r))] := hl
  have hS : va_S noA s.heap s.heap [] := va_S.rf
  refine lv_iload_n hx hb dX5_ticksLeftOf_0 rfl (lv_lk hl rfl) ?_
  exact x_callT (A1 := noA) (Po1 := fun _ => True) (vx_runS ⟨hx, hb, hml, hown, hts⟩ (x_requireRiddle l hl0 E r hr g9) (va_cwS 1 hts (gi_S ml_X5_73 st_X5_requireRiddle it_X5 cd_X5_requireRiddle) rfl rfl rfl (by decide +kernel) ⟨Nat.le_of_ble_eq_true rfl, Nat.le_of_ble_eq_true rfl⟩) (pX_S hK hKX hZ.none va_P_nil) rfl rfl hl.1 rfl (lv_room (Nat.le_of_ble_eq_true rfl)) dX5_ticksLeftOf_1 ⟨Nat.le_of_ble_eq_true rfl, Nat.le_of_ble_eq_true rfl⟩) (fun _ h => h.elim) (fun _ _ _ _ => trivial) hS htb hlocks (Nat.le_of_ble_eq_true rfl) (Nat.le_of_ble_eq_true rfl)
set_option maxHeartbeats 4000000 in
set_option maxRecDepth 100000 in
theorem x_isOutOfDate (l : Launch) (hl0 : l.stackTraces = false) (E : Env3) (a : Nat) (r : Int) (hr : -2147483648 ≤ r ∧ r ≤ 2147483647) (g9 : ¬ (0 ≤ r ∧ r ≤ 35)) : vx_Met l yX5_isOutOfDate (Cond.code yX5_isOutOfDate cX5_isOutOfDate 2 (some .boolean) :: ALL) ({ frames := 7, cells := 1, slots := 6, locals := 102 }) (pX [.ref a, .int (I r)] E noA (va_P E.1 vwCl [])) qF (xT xIO noA (fun _ => True)) 1 6 noA := by
  refine mk_x (by decide) rfl (Nat.le_of_ble_eq_true rfl) ?_
  intro p e s m args below meth c hx hb hrt hml hts hown hlocks htb hK hKX hZ hP ls hl
  have hown : s.vm.findClass RX5 = some m.cls := hown
  have hl : lv_has ls 2 [(0, .ref a), (1, .int (I r))] := hl
  have hS : va_S noA s.heap s.heap [] := va_S.rf
  refine lv_iload_n hx hb dX5_isOutOfDate_0 rfl (lv_lk hl rfl) ?_
  exact x_callT (A1 := noA) (Po1 := fun _ => True) (vx_runS ⟨hx, hb, hml, hown, hts⟩ (x_requireRiddle l hl0 E r hr g9) (va_cwS 1 hts (gi_S ml_X5_73 st_X5_requireRiddle it_X5 cd_X5_requireRiddle) rfl rfl rfl (by decide +kernel) ⟨Nat.le_of_ble_eq_true rfl, Nat.le_of_ble_eq_true rfl⟩) (pX_S hK hKX hZ.none va_P_nil) rfl rfl hl.1 rfl (lv_room (Nat.le_of_ble_eq_true rfl)) dX5_isOutOfDate_1 ⟨Nat.le_of_ble_eq_true rfl, Nat.le_of_ble_eq_true rfl⟩) (fun _ h => h.elim) (fun _ _ _ _ => trivial) hS htb hlocks (Nat.le_of_ble_eq_true rfl) (Nat.le_of_ble_eq_true rfl)
set_option maxHeartbeats 4000000 in
set_option maxRecDepth 100000 in
theorem x_wouldSolve (l : Launch) (hl0 : l.stackTraces = false) (E : Env3) (a : Nat) (r : Int) (hr : -2147483648 ≤ r ∧ r ≤ 2147483647) (g9 : ¬ (0 ≤ r ∧ r ≤ 35)) : vx_Met l yX5_wouldSolve (Cond.code yX5_wouldSolve cX5_wouldSolve 2 (some .int) :: ALL) ({ frames := 7, cells := 1, slots := 6, locals := 102 }) (pX [.ref a, .int (I r)] E noA (va_P E.1 vwCl [])) qF (xT xIO noA (fun _ => True)) 1 6 noA := by
  refine mk_x (by decide) rfl (Nat.le_of_ble_eq_true rfl) ?_
  intro p e s m args below meth c hx hb hrt hml hts hown hlocks htb hK hKX hZ hP ls hl
  have hown : s.vm.findClass RX5 = some m.cls := hown
  have hl : lv_has ls 2 [(0, .ref a), (1, .int (I r))] := hl
  have hS : va_S noA s.heap s.heap [] := va_S.rf
  refine lv_iload_n hx hb dX5_wouldSolve_0 rfl (lv_lk hl rfl) ?_
  exact x_callT (A1 := noA) (Po1 := fun _ => True) (vx_runS ⟨hx, hb, hml, hown, hts⟩ (x_requireRiddle l hl0 E r hr g9) (va_cwS 1 hts (gi_S ml_X5_73 st_X5_requireRiddle it_X5 cd_X5_requireRiddle) rfl rfl rfl (by decide +kernel) ⟨Nat.le_of_ble_eq_true rfl, Nat.le_of_ble_eq_true rfl⟩) (pX_S hK hKX hZ.none va_P_nil) rfl rfl hl.1 rfl (lv_room (Nat.le_of_ble_eq_true rfl)) dX5_wouldSolve_1 ⟨Nat.le_of_ble_eq_true rfl, Nat.le_of_ble_eq_true rfl⟩) (fun _ h => h.elim) (fun _ _ _ _ => trivial) hS htb hlocks (Nat.le_of_ble_eq_true rfl) (Nat.le_of_ble_eq_true rfl)
set_option maxHeartbeats 4000000 in
set_option maxRecDepth 100000 in
theorem x_costOf (l : Launch) (hl0 : l.stackTraces = false) (E : Env3) (a : Nat) (r : Int) (hr : -2147483648 ≤ r ∧ r ≤ 2147483647) (g9 : ¬ (0 ≤ r ∧ r ≤ 35)) : vx_Met l yX5_costOf (Cond.code yX5_costOf cX5_costOf 2 (some .int) :: ALL) ({ frames := 7, cells := 1, slots := 6, locals := 102 }) (pX [.ref a, .int (I r)] E noA (va_P E.1 vwCl [])) qF (xT xIO noA (fun _ => True)) 1 6 noA := by
  refine mk_x (by decide) rfl (Nat.le_of_ble_eq_true rfl) ?_
  intro p e s m args below meth c hx hb hrt hml hts hown hlocks htb hK hKX hZ hP ls hl
  have hown : s.vm.findClass RX5 = some m.cls := hown
  have hl : lv_has ls 2 [(0, .ref a), (1, .int (I r))] := hl
  have hS : va_S noA s.heap s.heap [] := va_S.rf
  refine lv_iload_n hx hb dX5_costOf_0 rfl (lv_lk hl rfl) ?_
  exact x_callT (A1 := noA) (Po1 := fun _ => True) (vx_runS ⟨hx, hb, hml, hown, hts⟩ (x_requireRiddle l hl0 E r hr g9) (va_cwS 1 hts (gi_S ml_X5_73 st_X5_requireRiddle it_X5 cd_X5_requireRiddle) rfl rfl rfl (by decide +kernel) ⟨Nat.le_of_ble_eq_true rfl, Nat.le_of_ble_eq_true rfl⟩) (pX_S hK hKX hZ.none va_P_nil) rfl rfl hl.1 rfl (lv_room (Nat.le_of_ble_eq_true rfl)) dX5_costOf_1 ⟨Nat.le_of_ble_eq_true rfl, Nat.le_of_ble_eq_true rfl⟩) (fun _ h => h.elim) (fun _ _ _ _ => trivial) hS htb hlocks (Nat.le_of_ble_eq_true rfl) (Nat.le_of_ble_eq_true rfl)
set_option maxHeartbeats 4000000 in
set_option maxRecDepth 100000 in
theorem x_ticksUntilTruth (l : Launch) (hl0 : l.stackTraces = false) (E : Env3) (a : Nat) (r : Int) (hr : -2147483648 ≤ r ∧ r ≤ 2147483647) (g9 : ¬ (0 ≤ r ∧ r ≤ 35)) : vx_Met l yX5_ticksUntilTruth (Cond.code yX5_ticksUntilTruth cX5_ticksUntilTruth 2 (some .int) :: ALL) ({ frames := 7, cells := 1, slots := 6, locals := 111 }) (pX [.ref a, .int (I r)] E noA (va_P E.1 vwCl [])) qF (xT xIO noA (fun _ => True)) 1 6 noA := by
  refine mk_x (by decide) rfl (Nat.le_of_ble_eq_true rfl) ?_
  intro p e s m args below meth c hx hb hrt hml hts hown hlocks htb hK hKX hZ hP ls hl
  have hown : s.vm.findClass RX5 = some m.cls := hown
  have hl : lv_has ls 2 [(0, .ref a), (1, .int (I r))] := hl
  have hS : va_S noA s.heap s.heap [] := va_S.rf
  refine lv_iload_n hx hb dX5_ticksUntilTruth_0 rfl (lv_lk hl rfl) ?_
  exact x_callT (A1 := noA) (Po1 := fun _ => True) (vx_runS ⟨hx, hb, hml, hown, hts⟩ (x_requireRiddle l hl0 E r hr g9) (va_cwS 1 hts (gi_S ml_X5_73 st_X5_requireRiddle it_X5 cd_X5_requireRiddle) rfl rfl rfl (by decide +kernel) ⟨Nat.le_of_ble_eq_true rfl, Nat.le_of_ble_eq_true rfl⟩) (pX_S hK hKX hZ.none va_P_nil) rfl rfl hl.1 rfl (lv_room (Nat.le_of_ble_eq_true rfl)) dX5_ticksUntilTruth_1 ⟨Nat.le_of_ble_eq_true rfl, Nat.le_of_ble_eq_true rfl⟩) (fun _ h => h.elim) (fun _ _ _ _ => trivial) hS htb hlocks (Nat.le_of_ble_eq_true rfl) (Nat.le_of_ble_eq_true rfl)
set_option maxHeartbeats 4000000 in
set_option maxRecDepth 100000 in
theorem x_pass_1 (l : Launch) (hl0 : l.stackTraces = false) (E : Env3) (a : Nat) (t : Int) (ht : -2147483648 ≤ t ∧ t ≤ 2147483647) (g9 : ¬ (1 ≤ t ∧ t ≤ 99)) : vx_Met l yX5_pass (Cond.code yX5_pass cX5_pass 2 (some .int) :: ALL) ({ frames := 7, cells := 1, slots := 6, locals := 148 }) (pX [.ref a, .int (I t)] E noA (va_P E.1 vwCl [])) qF (xT xIA noA (fun _ => True)) 1 6 noA := by
  refine mk_x (by decide) rfl (Nat.le_of_ble_eq_true rfl) ?_
  intro p e s m args below meth c hx hb hrt hml hts hown hlocks htb hK hKX hZ hP ls hl
  have hown : s.vm.findClass RX5 = some m.cls := hown
  have hl : lv_has ls 2 [(0, .ref a), (1, .int (I t))] := hl
  have hS : va_S noA s.heap s.heap [] := va_S.rf
  refine lv_iload_n hx hb dX5_pass_0 rfl (lv_lk hl rfl) ?_
  refine iv_iconst hx hb dX5_pass_1 ?_
  refine iv_bipush hx hb dX5_pass_2 (by decide +kernel) ?_
  exact x_callT (A1 := noA) (Po1 := fun _ => True) (vx_runS ⟨hx, hb, hml, hown, hts⟩ (x_requireRange l hl0 E t 1 99 (by omega) (by omega) (by omega) (by omega)) (va_cwS 3 hts (gi_S ml_X5_42 st_X5_requireRange it_X5 cd_X5_requireRange) rfl rfl rfl (by decide +kernel) ⟨Nat.le_of_ble_eq_true rfl, Nat.le_of_ble_eq_true rfl⟩) (pX_S hK hKX hZ.none va_P_nil) rfl rfl hl.1 rfl (lv_room (Nat.le_of_ble_eq_true rfl)) dX5_pass_4 ⟨Nat.le_of_ble_eq_true rfl, Nat.le_of_ble_eq_true rfl⟩) (fun _ h => h.elim) (fun _ _ _ _ => trivial) hS htb hlocks (Nat.le_of_ble_eq_true rfl) (Nat.le_of_ble_eq_true rfl)
set_option maxHeartbeats 4000000 in
set_option maxRecDepth 100000 in
theorem x_takeAway_2 (l : Launch) (hl0 : l.stackTraces = false) (E : Env3) (γ α : Nat → Nat) (β : Nat → Nat → Nat) (st : S) (sv : Nat → S) (n N ac : Int) (tx fs fn : S) (r : Nat) (hr : r < 36) (k8 : st (36 + 6 * r) = 0) : vx_Met l yX5_takeAway (Cond.code yX5_takeAway cX5_takeAway 2 (some .int) :: ALL) ({ frames := 7, cells := 1, slots := 6, locals := 173 }) (pX [.ref (γ 0), .int (I (r : Int))] E noA (va_P E.1 vwCl (pW E γ α β st sv n N ac tx fs fn))) qF (xT xIS noA (fun _ => True)) 1 6 noA := by
  refine mk_x (by decide) rfl (Nat.le_of_ble_eq_true rfl) ?_
  intro p e s m args below meth c hx hb hrt hml hts hown hlocks htb hK hKX hZ hP ls hl
  have hown : s.vm.findClass RX5 = some m.cls := hown
  have hl : lv_has ls 2 [(0, .ref (γ 0)), (1, .int (I (r : Int)))] := hl
  have hS : va_S noA s.heap s.heap [] := va_S.rf
  refine lv_iload_n hx hb dX5_takeAway_0 rfl (lv_lk hl rfl) ?_
  refine call_S (va_runS ⟨hx, hb, hml, hown, hts⟩ (m_X5_requireRiddle_ok l E (r : Int) (by omega)) (va_cwS 1 hts (gi_S ml_X5_73 st_X5_requireRiddle it_X5 cd_X5_requireRiddle) rfl rfl rfl (by decide +kernel) ⟨Nat.le_of_ble_eq_true rfl, Nat.le_of_ble_eq_true rfl⟩) (pR_S (hP.sub (ws' := []) [] rfl) hK) rfl rfl hl.1 rfl (lv_room (Nat.le_of_ble_eq_true rfl)) dX5_takeAway_1 ⟨Nat.le_of_ble_eq_true rfl, Nat.le_of_ble_eq_true rfl⟩) (fun _ h => h) hS rfl (fun locs hS => ?_)
  refine lv_aload_n hx hb dX5_takeAway_4 rfl (lv_lk hl rfl) ?_
  refine va_get (D := E.1) (ci := 5) hx hb hts inX5 hown hK.1 hP 0 rfl rfl 0 (by decide) (hts _ fl_X5_10) (fun _ h9 => h9) rfl dX5_takeAway_5 ?_
  refine va_get (D := E.1) (ci := 3) hx hb hts inX3 hown hK.1 hP 6 rfl rfl 2 (by decide) (hts _ fl_X5_85) (fun _ h9 => h9) rfl dX5_takeAway_8 ?_
  refine lv_iload_n hx hb dX5_takeAway_11 rfl (lv_lk hl rfl) ?_
  refine call_S (va_runV ⟨hx, hb, hml, hown, hts⟩ (m_X2_kind l E (α 5) (α 6) (α 7) (α 8) (tK st) (tV st) (tA st) r (by omega)) (cwV 1 hts (gi_V ml_X5_89 im_X2_kind sl_X2_kind it_X2 cd_X2_kind) rfl rfl rfl (by decide +kernel) ⟨Nat.le_of_ble_eq_true rfl, Nat.le_of_ble_eq_true rfl⟩) (pR_V (q0 := 0) (ci := 2) (hP.sub (ws' := (repW E (α 5) (α 6) (α 7) (α 8) (tK st) (tV st) (tA st))) [11, 12, 13, 14] rfl) hK rfl rfl) rfl rfl hl.1 rfl (lv_room (Nat.le_of_ble_eq_true rfl)) dX5_takeAway_12 ⟨Nat.le_of_ble_eq_true rfl, Nat.le_of_ble_eq_true rfl⟩) (fun _ h => h) hS rfl (fun locs hS => ?_)
  refine iv_eq (0) (k8) ?_
  refine iv_if_ne (tgt := 28) hx hb dX5_takeAway_15 (by decide) (by omega) (fun c_15 => by exfalso; omega) (fun c_15 => ?_)
  exact x_throwS hx hb hl0 xIS_ok hown hml hl hts hKX hZ hS (fun _ _ _ => trivial) htb hlocks (List.mem_of_getElem? (i := 5) rfl) dX5_takeAway_18 dX5_takeAway_21 dX5_takeAway_22 dX5_takeAway_24 dX5_takeAway_27 ⟨Nat.le_of_ble_eq_true rfl, Nat.le_of_ble_eq_true rfl, Nat.le_of_ble_eq_true rfl, Nat.le_of_ble_eq_true rfl⟩ (Nat.le_of_ble_eq_true rfl) (Nat.le_of_ble_eq_true rfl)
set_option maxHeartbeats 4000000 in
set_option maxRecDepth 100000 in
theorem x_forget_2 (l : Launch) (hl0 : l.stackTraces = false) (E : Env3) (γ α : Nat → Nat) (β : Nat → Nat → Nat) (st : S) (sv : Nat → S) (n N ac : Int) (tx fs fn : S) (r : Nat) (hr : r < 36) (k8 : st (36 + 6 * r + 3) = 0) : vx_Met l yX5_forget (Cond.code yX5_forget cX5_forget 3 (some .int) :: ALL) ({ frames := 7, cells := 1, slots := 6, locals := 148 }) (pX [.ref (γ 0), .int (I (r : Int))] E noA (va_P E.1 vwCl (pW E γ α β st sv n N ac tx fs fn))) qF (xT xIS noA (fun _ => True)) 1 6 noA := by
  refine mk_x (by decide) rfl (Nat.le_of_ble_eq_true rfl) ?_
  intro p e s m args below meth c hx hb hrt hml hts hown hlocks htb hK hKX hZ hP ls hl
  have hown : s.vm.findClass RX5 = some m.cls := hown
  have hl : lv_has ls 3 [(0, .ref (γ 0)), (1, .int (I (r : Int)))] := hl
  have hS : va_S noA s.heap s.heap [] := va_S.rf
  refine lv_iload_n hx hb dX5_forget_0 rfl (lv_lk hl rfl) ?_
  refine call_S (va_runS ⟨hx, hb, hml, hown, hts⟩ (m_X5_requireRiddle_ok l E (r : Int) (by omega)) (va_cwS 1 hts (gi_S ml_X5_73 st_X5_requireRiddle it_X5 cd_X5_requireRiddle) rfl rfl rfl (by decide +kernel) ⟨Nat.le_of_ble_eq_true rfl, Nat.le_of_ble_eq_true rfl⟩) (pR_S (hP.sub (ws' := []) [] rfl) hK) rfl rfl hl.1 rfl (lv_room (Nat.le_of_ble_eq_true rfl)) dX5_forget_1 ⟨Nat.le_of_ble_eq_true rfl, Nat.le_of_ble_eq_true rfl⟩) (fun _ h => h) hS rfl (fun locs hS => ?_)
  refine lv_aload_n hx hb dX5_forget_4 rfl (lv_lk hl rfl) ?_
  refine va_get (D := E.1) (ci := 5) hx hb hts inX5 hown hK.1 hP 0 rfl rfl 0 (by decide) (hts _ fl_X5_10) (fun _ h9 => h9) rfl dX5_forget_5 ?_
  refine va_get (D := E.1) (ci := 3) hx hb hts inX3 hown hK.1 hP 6 rfl rfl 3 (by decide) (hts _ fl_X5_103) (fun _ h9 => h9) rfl dX5_forget_8 ?_
  refine lv_iload_n hx hb dX5_forget_11 rfl (lv_lk hl rfl) ?_
  refine call_S (va_runV ⟨hx, hb, hml, hown, hts⟩ (m_X2_kind l E (α 9) (α 10) (α 11) (α 12) (mK st) (mV st) (mE st) r (by omega)) (cwV 1 hts (gi_V ml_X5_89 im_X2_kind sl_X2_kind it_X2 cd_X2_kind) rfl rfl rfl (by decide +kernel) ⟨Nat.le_of_ble_eq_true rfl, Nat.le_of_ble_eq_true rfl⟩) (pR_V (q0 := 0) (ci := 2) (hP.sub (ws' := (repW E (α 9) (α 10) (α 11) (α 12) (mK st) (mV st) (mE st))) [15, 16, 17, 18] rfl) hK rfl rfl) rfl rfl hl.1 rfl (lv_room (Nat.le_of_ble_eq_true rfl)) dX5_forget_12 ⟨Nat.le_of_ble_eq_true rfl, Nat.le_of_ble_eq_true rfl⟩) (fun _ h => h) hS rfl (fun locs hS => ?_)
  refine iv_eq (0) (k8) ?_
  refine lv_istore_n (lv' := [(2, .int (I _)), (0, .ref _), (1, .int (I _))]) hx hb dX5_forget_15 rfl hl (by decide) rfl (fun ls hl => ?_)
  refine lv_iload_n hx hb dX5_forget_16 rfl (lv_lk hl rfl) ?_
  refine iv_if_ne (tgt := 30) hx hb dX5_forget_17 (by decide) (by omega) (fun c_17 => by exfalso; omega) (fun c_17 => ?_)
  exact x_throwS hx hb hl0 xIS_ok hown hml hl hts hKX hZ hS (fun _ _ _ => trivial) htb hlocks (List.mem_of_getElem? (i := 6) rfl) dX5_forget_20 dX5_forget_23 dX5_forget_24 dX5_forget_26 dX5_forget_29 ⟨Nat.le_of_ble_eq_true rfl, Nat.le_of_ble_eq_true rfl, Nat.le_of_ble_eq_true rfl, Nat.le_of_ble_eq_true rfl⟩ (Nat.le_of_ble_eq_true rfl) (Nat.le_of_ble_eq_true rfl)
set_option maxHeartbeats 4000000 in
set_option maxRecDepth 100000 in
theorem x_pass_2 (l : Launch) (hl0 : l.stackTraces = false) (E : Env3) (γ α : Nat → Nat) (β : Nat → Nat → Nat) (st : S) (sv : Nat → S) (n N ac : Int) (tx fs fn : S) (t : Int) (ht : 1 ≤ t ∧ t ≤ 99) (h0 : 0 ≤ st 0 ∧ st 0 ≤ 100000) (h8 : ¬ st 0 + t ≤ 9999) : vx_Met l yX5_pass (Cond.code yX5_pass cX5_pass 2 (some .int) :: ALL) ({ frames := 7, cells := 1, slots := 6, locals := 148 }) (pX [.ref (γ 0), .int (I t)] E noA (va_P E.1 vwCl (pW E γ α β st sv n N ac tx fs fn))) qF (xT xIS noA (fun _ => True)) 1 6 noA := by
  refine mk_x (by decide) rfl (Nat.le_of_ble_eq_true rfl) ?_
  intro p e s m args below meth c hx hb hrt hml hts hown hlocks htb hK hKX hZ hP ls hl
  have hown : s.vm.findClass RX5 = some m.cls := hown
  have hl : lv_has ls 2 [(0, .ref (γ 0)), (1, .int (I t))] := hl
  have hS : va_S noA s.heap s.heap [] := va_S.rf
  refine lv_iload_n hx hb dX5_pass_0 rfl (lv_lk hl rfl) ?_
  refine iv_iconst hx hb dX5_pass_1 ?_
  refine iv_bipush hx hb dX5_pass_2 (by decide +kernel) ?_
  refine call_S (va_runS ⟨hx, hb, hml, hown, hts⟩ (m_X5_requireRange_ok l E t 1 99 (by omega) (by omega) (by omega) (by omega)) (va_cwS 3 hts (gi_S ml_X5_42 st_X5_requireRange it_X5 cd_X5_requireRange) rfl rfl rfl (by decide +kernel) ⟨Nat.le_of_ble_eq_true rfl, Nat.le_of_ble_eq_true rfl⟩) (pR_S (hP.sub (ws' := []) [] rfl) hK) rfl rfl hl.1 rfl (lv_room (Nat.le_of_ble_eq_true rfl)) dX5_pass_4 ⟨Nat.le_of_ble_eq_true rfl, Nat.le_of_ble_eq_true rfl⟩) (fun _ h => h) hS rfl (fun locs hS => ?_)
  refine lv_aload_n hx hb dX5_pass_7 rfl (lv_lk hl rfl) ?_
  refine va_get (D := E.1) (ci := 5) hx hb hts inX5 hown hK.1 hP 0 rfl rfl 0 (by decide) (hts _ fl_X5_10) (fun _ h9 => h9) rfl dX5_pass_8 ?_
  refine lv_iload_n hx hb dX5_pass_11 rfl (lv_lk hl rfl) ?_
  refine call_S (va_runV ⟨hx, hb, hml, hown, hts⟩ (m_X3_hasRoomFor l E α st t (by omega) (by omega)) (cwV 1 hts (gi_V ml_X5_111 im_X3_hasRoomFor sl_X3_hasRoomFor it_X3 cd_X3_hasRoomFor) rfl rfl rfl (by decide +kernel) ⟨Nat.le_of_ble_eq_true rfl, Nat.le_of_ble_eq_true rfl⟩) (pR_V (q0 := 0) (ci := 3) (hP.sub (ws' := (stW E α st)) [6, 7, 8, 9, 10, 11, 12, 13, 14, 15, 16, 17, 18, 19, 20, 21] rfl) hK rfl rfl) rfl rfl hl.1 rfl (lv_room (Nat.le_of_ble_eq_true rfl)) dX5_pass_12 ⟨Nat.le_of_ble_eq_true rfl, Nat.le_of_ble_eq_true rfl⟩) (fun _ h => h) hS rfl (fun locs hS => ?_)
  refine iv_eq (0) (by rw [if_neg h8]) ?_
  refine iv_if_ne (tgt := 28) hx hb dX5_pass_15 (by decide) (by omega) (fun c_15 => by exfalso; omega) (fun c_15 => ?_)
  exact x_throwS hx hb hl0 xIS_ok hown hml hl hts hKX hZ hS (fun _ _ _ => trivial) htb hlocks (List.mem_of_getElem? (i := 7) rfl) dX5_pass_18 dX5_pass_21 dX5_pass_22 dX5_pass_24 dX5_pass_27 ⟨Nat.le_of_ble_eq_true rfl, Nat.le_of_ble_eq_true rfl, Nat.le_of_ble_eq_true rfl, Nat.le_of_ble_eq_true rfl⟩ (Nat.le_of_ble_eq_true rfl) (Nat.le_of_ble_eq_true rfl)
