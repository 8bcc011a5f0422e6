/-! the class: the faces that change something, at valid arguments; written by cls11.py -/
set_option maxHeartbeats 4000000 in
set_option maxRecDepth 100000 in
theorem m_X5_setParent_ok (l : Launch) (E : Env3) (γ α : Nat → Nat) (β : Nat → Nat → Nat) (st : S) (sv : Nat → S) (N ac : Int) (tx fs fn : S) (hN : ndP γ α β) (n : Nat) (hn : n ≤ 6) (z q : Nat) (hz1 : 1 ≤ z) (hz : z < 6) (hq : q < z) : Met l yX5_setParent (Cond.code yX5_setParent cX5_setParent 4 (some .int) :: ALL) ({ frames := 7, cells := 0, slots := 0, locals := 148 }) (pR [.ref (γ 0), .int (I (z : Int)), .int (I (q : Int))] E (pW E γ α β st sv ((n : Int)) N ac tx fs fn)) (qW (some (.int (I (st (6 + 5 * z))))) E (pW E γ α β st sv ((n : Int)) N ac tx fs fn) (pW E γ α (bN β n) (up st (6 + 5 * z) (q : Int)) (sN sv st n) (((recN n : Nat) : Int)) N ac tx fs fn)) 0 0 (adIn (pW E γ α β st sv ((n : Int)) N ac tx fs fn)) := by
  refine mk_met (by decide) rfl (Nat.le_of_ble_eq_true rfl) ?_
  intro p e s m args below meth c hx hb hrt hml hts hown hlocks hnm hP hK ls hl
  have hown : s.vm.findClass RX5 = some m.cls := hown
  have hl : lv_has ls 4 [(0, .ref (γ 0)), (1, .int (I (z : Int))), (2, .int (I (q : Int)))] := hl
  have hD : va_D (adIn (pW E γ α β st sv ((n : Int)) N ac tx fs fn)) (pW E γ α β st sv ((n : Int)) N ac tx fs fn) := D_pW hN
  have hS : va_S (adIn (pW E γ α β st sv ((n : Int)) N ac tx fs fn)) s.heap s.heap [] := va_S.rf
  refine lv_iload_n hx hb dX5_setParent_0 rfl (lv_lk hl rfl) ?_
  refine call_S (va_runS ⟨hx, hb, hml, hown, hts⟩ (m_X5_requireZone_ok l E (z : Int) (by omega)) (va_cwS 1 hts (gi_S ml_X5_31 st_X5_requireZone it_X5 cd_X5_requireZone) rfl rfl rfl (by decide +kernel) ⟨Nat.le_of_ble_eq_true rfl, Nat.le_of_ble_eq_true rfl⟩) (pR_S (hP.sub (ws' := []) [] rfl) hK) rfl rfl hl.1 rfl (lv_room (Nat.le_of_ble_eq_true rfl)) dX5_setParent_1 ⟨Nat.le_of_ble_eq_true rfl, Nat.le_of_ble_eq_true rfl⟩) (fun _ h => h) hS rfl (fun locs hS => ?_)
  refine lv_iload_n hx hb dX5_setParent_4 rfl (lv_lk hl rfl) ?_
  refine iv_if_ne (tgt := 18) hx hb dX5_setParent_5 (by decide) (by omega) (fun c_5 => ?_) (fun c_5 => by exfalso; omega)
  refine lv_iload_n hx hb dX5_setParent_18 rfl (lv_lk hl rfl) ?_
  refine iv_iconst hx hb dX5_setParent_19 ?_
  refine lv_iload_n hx hb dX5_setParent_20 rfl (lv_lk hl rfl) ?_
  refine iv_iconst hx hb dX5_setParent_21 ?_
  refine iv_isub hx hb dX5_setParent_22 ?_
  refine call_S (va_runS ⟨hx, hb, hml, hown, hts⟩ (m_X5_requireRange_ok l E (q : Int) 0 ((z : Int) - 1) (by omega) (by omega) (by omega) (by omega)) (va_cwS 3 hts (gi_S ml_X5_42 st_X5_requireRange it_X5 cd_X5_requireRange) rfl rfl rfl (by decide +kernel) ⟨Nat.le_of_ble_eq_true rfl, Nat.le_of_ble_eq_true rfl⟩) (pR_S (hP.sub (ws' := []) [] rfl) hK) rfl rfl hl.1 rfl (lv_room (Nat.le_of_ble_eq_true rfl)) dX5_setParent_23 ⟨Nat.le_of_ble_eq_true rfl, Nat.le_of_ble_eq_true rfl⟩) (fun _ h => h) hS rfl (fun locs hS => ?_)
  refine lv_aload_n hx hb dX5_setParent_26 rfl (lv_lk hl rfl) ?_
  refine call_F (va_runV ⟨hx, hb, hml, hown, hts⟩ (m_X5_save l E γ α β st sv N ac tx fs fn hN n hn) (cwV 0 hts (gi_V ml_X5_46 im_X5_save sl_X5_save it_X5 cd_X5_save) rfl rfl rfl (by decide +kernel) ⟨Nat.le_of_ble_eq_true rfl, Nat.le_of_ble_eq_true rfl⟩) (pR_V (q0 := 0) (ci := 5) hP hK rfl rfl) rfl rfl hl.1 rfl (lv_room (Nat.le_of_ble_eq_true rfl)) dX5_setParent_27 ⟨Nat.le_of_ble_eq_true rfl, Nat.le_of_ble_eq_true rfl⟩) (dm hD rfl) hS rfl (fun H locs hP hS => ?_)
  have hP : va_P E.1 vwCl (pW E γ α (bN β n) st (sN sv st n) (((recN n : Nat) : Int)) N ac tx fs fn) H := hP
  have hD : va_D (adIn (pW E γ α β st sv ((n : Int)) N ac tx fs fn)) (pW E γ α (bN β n) st (sN sv st n) (((recN n : Nat) : Int)) N ac tx fs fn) := D_bN hN n
  refine lv_aload_n hx hb dX5_setParent_30 rfl (lv_lk hl rfl) ?_
  refine va_get (D := E.1) (ci := 5) hx hb hts inX5 hown hK.1 hP 0 rfl rfl 0 (by decide) (hts _ fl_X5_10) (fun _ h9 => h9) rfl dX5_setParent_31 ?_
  refine va_get (D := E.1) (ci := 3) hx hb hts inX3 hown hK.1 hP 6 rfl rfl 1 (by decide) (hts _ fl_X5_49) (fun _ h9 => h9) rfl dX5_setParent_34 ?_
  refine va_get (D := E.1) (ci := 4) hx hb hts inX4 hown hK.1 hP 7 rfl rfl 0 (by decide) (hts _ fl_X5_53) (fun _ h9 => h9) rfl dX5_setParent_37 ?_
  refine lv_iload_n hx hb dX5_setParent_40 rfl (lv_lk hl rfl) ?_
  refine call_S (va_runS ⟨hx, hb, hml, hown, hts⟩ (m_X5_read l E (α 2) 6 z (cP st) (by omega) (by omega)) (va_cwS 2 hts (gi_S ml_X5_59 st_X5_read it_X5 cd_X5_read) rfl rfl rfl (by decide +kernel) ⟨Nat.le_of_ble_eq_true rfl, Nat.le_of_ble_eq_true rfl⟩) (pR_S (hP.sub (ws' := [(α 2, iA E 6 (cP st))]) [8] rfl) hK) rfl rfl hl.1 rfl (lv_room (Nat.le_of_ble_eq_true rfl)) dX5_setParent_41 ⟨Nat.le_of_ble_eq_true rfl, Nat.le_of_ble_eq_true rfl⟩) (fun _ h => h) hS rfl (fun locs hS => ?_)
  refine lv_istore_n (lv' := [(3, .int (I _)), (0, .ref _), (1, .int (I _)), (2, .int (I _))]) hx hb dX5_setParent_44 rfl hl (by decide) rfl (fun ls hl => ?_)
  refine lv_aload_n hx hb dX5_setParent_45 rfl (lv_lk hl rfl) ?_
  refine va_get (D := E.1) (ci := 5) hx hb hts inX5 hown hK.1 hP 0 rfl rfl 0 (by decide) (hts _ fl_X5_10) (fun _ h9 => h9) rfl dX5_setParent_46 ?_
  refine va_get (D := E.1) (ci := 3) hx hb hts inX3 hown hK.1 hP 6 rfl rfl 1 (by decide) (hts _ fl_X5_49) (fun _ h9 => h9) rfl dX5_setParent_49 ?_
  refine va_get (D := E.1) (ci := 4) hx hb hts inX4 hown hK.1 hP 7 rfl rfl 0 (by decide) (hts _ fl_X5_53) (fun _ h9 => h9) rfl dX5_setParent_52 ?_
  refine lv_iload_n hx hb dX5_setParent_55 rfl (lv_lk hl rfl) ?_
  refine lv_iload_n hx hb dX5_setParent_56 rfl (lv_lk hl rfl) ?_
  refine call_W (va_runS ⟨hx, hb, hml, hown, hts⟩ (m_X5_write l E (α 2) 6 z (cP st) ((q : Int)) (by omega) (by omega)) (va_cwS 3 hts (gi_S ml_X5_63 st_X5_write it_X5 cd_X5_write) rfl rfl rfl (by decide +kernel) ⟨Nat.le_of_ble_eq_true rfl, Nat.le_of_ble_eq_true rfl⟩) (pR_S (hP.sub (ws' := [(α 2, iA E 6 (cP st))]) [8] rfl) hK) rfl rfl hl.1 rfl (lv_room (Nat.le_of_ble_eq_true rfl)) dX5_setParent_57 ⟨Nat.le_of_ble_eq_true rfl, Nat.le_of_ble_eq_true rfl⟩) hP (dm hD rfl) hS [8] rfl (by decide) rfl _ (rfl) rfl (fun H locs hP hS => ?_)
  have hP : va_P E.1 vwCl (pW E γ α (bN β n) (up st (6 + 5 * z) ((q : Int))) (sN sv st n) (((recN n : Nat) : Int)) N ac tx fs fn) H := pw_mid (w_par (st := st) z ((q : Int)) hz) hP
  refine lv_iload_n hx hb dX5_setParent_60 rfl (lv_lk hl rfl) ?_
  exact W.iret hx hb hrt (fun t ht hW => ⟨rfl, by rw [ht]; exact hP, hS.F ht⟩) hS.2.2 dX5_setParent_61 hlocks
set_option maxHeartbeats 4000000 in
set_option maxRecDepth 100000 in
theorem m_X5_setAges_ok (l : Launch) (E : Env3) (γ α : Nat → Nat) (β : Nat → Nat → Nat) (st : S) (sv : Nat → S) (N ac : Int) (tx fs fn : S) (hN : ndP γ α β) (n : Nat) (hn : n ≤ 6) (z : Nat) (hz : z < 6) (u v : Int) (hu : 1 ≤ u ∧ u ≤ 99) (hv : 1 ≤ v ∧ v ≤ 99) : Met l yX5_setAges (Cond.code yX5_setAges cX5_setAges 5 (some .int) :: ALL) ({ frames := 7, cells := 0, slots := 0, locals := 148 }) (pR [.ref (γ 0), .int (I (z : Int)), .int (I u), .int (I v)] E (pW E γ α β st sv ((n : Int)) N ac tx fs fn)) (qW (some (.int (I (st (6 + 5 * z + 1))))) E (pW E γ α β st sv ((n : Int)) N ac tx fs fn) (pW E γ α (bN β n) (up (up st (6 + 5 * z + 1) u) (6 + 5 * z + 2) v) (sN sv st n) (((recN n : Nat) : Int)) N ac tx fs fn)) 0 0 (adIn (pW E γ α β st sv ((n : Int)) N ac tx fs fn)) := by
  refine mk_met (by decide) rfl (Nat.le_of_ble_eq_true rfl) ?_
  intro p e s m args below meth c hx hb hrt hml hts hown hlocks hnm hP hK ls hl
  have hown : s.vm.findClass RX5 = some m.cls := hown
  have hl : lv_has ls 5 [(0, .ref (γ 0)), (1, .int (I (z : Int))), (2, .int (I u)), (3, .int (I v))] := hl
  have hD : va_D (adIn (pW E γ α β st sv ((n : Int)) N ac tx fs fn)) (pW E γ α β st sv ((n : Int)) N ac tx fs fn) := D_pW hN
  have hS : va_S (adIn (pW E γ α β st sv ((n : Int)) N ac tx fs fn)) s.heap s.heap [] := va_S.rf
  refine lv_iload_n hx hb dX5_setAges_0 rfl (lv_lk hl rfl) ?_
  refine call_S (va_runS ⟨hx, hb, hml, hown, hts⟩ (m_X5_requireZone_ok l E (z : Int) (by omega)) (va_cwS 1 hts (gi_S ml_X5_31 st_X5_requireZone it_X5 cd_X5_requireZone) rfl rfl rfl (by decide +kernel) ⟨Nat.le_of_ble_eq_true rfl, Nat.le_of_ble_eq_true rfl⟩) (pR_S (hP.sub (ws' := []) [] rfl) hK) rfl rfl hl.1 rfl (lv_room (Nat.le_of_ble_eq_true rfl)) dX5_setAges_1 ⟨Nat.le_of_ble_eq_true rfl, Nat.le_of_ble_eq_true rfl⟩) (fun _ h => h) hS rfl (fun locs hS => ?_)
  refine lv_iload_n hx hb dX5_setAges_4 rfl (lv_lk hl rfl) ?_
  refine iv_iconst hx hb dX5_setAges_5 ?_
  refine iv_bipush hx hb dX5_setAges_6 (by decide +kernel) ?_
  refine call_S (va_runS ⟨hx, hb, hml, hown, hts⟩ (m_X5_requireRange_ok l E u 1 99 (by omega) (by omega) (by omega) (by omega)) (va_cwS 3 hts (gi_S ml_X5_42 st_X5_requireRange it_X5 cd_X5_requireRange) rfl rfl rfl (by decide +kernel) ⟨Nat.le_of_ble_eq_true rfl, Nat.le_of_ble_eq_true rfl⟩) (pR_S (hP.sub (ws' := []) [] rfl) hK) rfl rfl hl.1 rfl (lv_room (Nat.le_of_ble_eq_true rfl)) dX5_setAges_8 ⟨Nat.le_of_ble_eq_true rfl, Nat.le_of_ble_eq_true rfl⟩) (fun _ h => h) hS rfl (fun locs hS => ?_)
  refine lv_iload_n hx hb dX5_setAges_11 rfl (lv_lk hl rfl) ?_
  refine iv_iconst hx hb dX5_setAges_12 ?_
  refine iv_bipush hx hb dX5_setAges_13 (by decide +kernel) ?_
  refine call_S (va_runS ⟨hx, hb, hml, hown, hts⟩ (m_X5_requireRange_ok l E v 1 99 (by omega) (by omega) (by omega) (by omega)) (va_cwS 3 hts (gi_S ml_X5_42 st_X5_requireRange it_X5 cd_X5_requireRange) rfl rfl rfl (by decide +kernel) ⟨Nat.le_of_ble_eq_true rfl, Nat.le_of_ble_eq_true rfl⟩) (pR_S (hP.sub (ws' := []) [] rfl) hK) rfl rfl hl.1 rfl (lv_room (Nat.le_of_ble_eq_true rfl)) dX5_setAges_15 ⟨Nat.le_of_ble_eq_true rfl, Nat.le_of_ble_eq_true rfl⟩) (fun _ h => h) hS rfl (fun locs hS => ?_)
  refine lv_aload_n hx hb dX5_setAges_18 rfl (lv_lk hl rfl) ?_
  refine call_F (va_runV ⟨hx, hb, hml, hown, hts⟩ (m_X5_save l E γ α β st sv N ac tx fs fn hN n hn) (cwV 0 hts (gi_V ml_X5_46 im_X5_save sl_X5_save it_X5 cd_X5_save) rfl rfl rfl (by decide +kernel) ⟨Nat.le_of_ble_eq_true rfl, Nat.le_of_ble_eq_true rfl⟩) (pR_V (q0 := 0) (ci := 5) hP hK rfl rfl) rfl rfl hl.1 rfl (lv_room (Nat.le_of_ble_eq_true rfl)) dX5_setAges_19 ⟨Nat.le_of_ble_eq_true rfl, Nat.le_of_ble_eq_true rfl⟩) (dm hD rfl) hS rfl (fun H locs hP hS => ?_)
  have hP : va_P E.1 vwCl (pW E γ α (bN β n) st (sN sv st n) (((recN n : Nat) : Int)) N ac tx fs fn) H := hP
  have hD : va_D (adIn (pW E γ α β st sv ((n : Int)) N ac tx fs fn)) (pW E γ α (bN β n) st (sN sv st n) (((recN n : Nat) : Int)) N ac tx fs fn) := D_bN hN n
  refine lv_aload_n hx hb dX5_setAges_22 rfl (lv_lk hl rfl) ?_
  refine va_get (D := E.1) (ci := 5) hx hb hts inX5 hown hK.1 hP 0 rfl rfl 0 (by decide) (hts _ fl_X5_10) (fun _ h9 => h9) rfl dX5_setAges_23 ?_
  refine va_get (D := E.1) (ci := 3) hx hb hts inX3 hown hK.1 hP 6 rfl rfl 1 (by decide) (hts _ fl_X5_49) (fun _ h9 => h9) rfl dX5_setAges_26 ?_
  refine va_get (D := E.1) (ci := 4) hx hb hts inX4 hown hK.1 hP 7 rfl rfl 1 (by decide) (hts _ fl_X5_67) (fun _ h9 => h9) rfl dX5_setAges_29 ?_
  refine lv_iload_n hx hb dX5_setAges_32 rfl (lv_lk hl rfl) ?_
  refine call_S (va_runS ⟨hx, hb, hml, hown, hts⟩ (m_X5_read l E (α 3) 6 z (cRA st) (by omega) (by omega)) (va_cwS 2 hts (gi_S ml_X5_59 st_X5_read it_X5 cd_X5_read) rfl rfl rfl (by decide +kernel) ⟨Nat.le_of_ble_eq_true rfl, Nat.le_of_ble_eq_true rfl⟩) (pR_S (hP.sub (ws' := [(α 3, iA E 6 (cRA st))]) [9] rfl) hK) rfl rfl hl.1 rfl (lv_room (Nat.le_of_ble_eq_true rfl)) dX5_setAges_33 ⟨Nat.le_of_ble_eq_true rfl, Nat.le_of_ble_eq_true rfl⟩) (fun _ h => h) hS rfl (fun locs hS => ?_)
  refine lv_istore (lv' := [(4, .int (I _)), (0, .ref _), (1, .int (I _)), (2, .int (I _)), (3, .int (I _))]) hx hb dX5_setAges_36 hl (by decide) rfl (fun ls hl => ?_)
  refine lv_aload_n hx hb dX5_setAges_38 rfl (lv_lk hl rfl) ?_
  refine va_get (D := E.1) (ci := 5) hx hb hts inX5 hown hK.1 hP 0 rfl rfl 0 (by decide) (hts _ fl_X5_10) (fun _ h9 => h9) rfl dX5_setAges_39 ?_
  refine va_get (D := E.1) (ci := 3) hx hb hts inX3 hown hK.1 hP 6 rfl rfl 1 (by decide) (hts _ fl_X5_49) (fun _ h9 => h9) rfl dX5_setAges_42 ?_
  refine va_get (D := E.1) (ci := 4) hx hb hts inX4 hown hK.1 hP 7 rfl rfl 1 (by decide) (hts _ fl_X5_67) (fun _ h9 => h9) rfl dX5_setAges_45 ?_
  refine lv_iload_n hx hb dX5_setAges_48 rfl (lv_lk hl rfl) ?_
  refine lv_iload_n hx hb dX5_setAges_49 rfl (lv_lk hl rfl) ?_
  refine call_W (va_runS ⟨hx, hb, hml, hown, hts⟩ (m_X5_write l E (α 3) 6 z (cRA st) u (by omega) (by omega)) (va_cwS 3 hts (gi_S ml_X5_63 st_X5_write it_X5 cd_X5_write) rfl rfl rfl (by decide +kernel) ⟨Nat.le_of_ble_eq_true rfl, Nat.le_of_ble_eq_true rfl⟩) (pR_S (hP.sub (ws' := [(α 3, iA E 6 (cRA st))]) [9] rfl) hK) rfl rfl hl.1 rfl (lv_room (Nat.le_of_ble_eq_true rfl)) dX5_setAges_50 ⟨Nat.le_of_ble_eq_true rfl, Nat.le_of_ble_eq_true rfl⟩) hP (dm hD rfl) hS [9] rfl (by decide) rfl _ (rfl) rfl (fun H locs hP hS => ?_)
  have hP : va_P E.1 vwCl (pW E γ α (bN β n) (up st (6 + 5 * z + 1) u) (sN sv st n) (((recN n : Nat) : Int)) N ac tx fs fn) H := pw_mid (w_ra (st := st) z u hz) hP
  refine lv_aload_n hx hb dX5_setAges_53 rfl (lv_lk hl rfl) ?_
  refine va_get (D := E.1) (ci := 5) hx hb hts inX5 hown hK.1 hP 0 rfl rfl 0 (by decide) (hts _ fl_X5_10) (fun _ h9 => h9) rfl dX5_setAges_54 ?_
  refine va_get (D := E.1) (ci := 3) hx hb hts inX3 hown hK.1 hP 6 rfl rfl 1 (by decide) (hts _ fl_X5_49) (fun _ h9 => h9) rfl dX5_setAges_57 ?_
  refine va_get (D := E.1) (ci := 4) hx hb hts inX4 hown hK.1 hP 7 rfl rfl 2 (by decide) (hts _ fl_X5_70) (fun _ h9 => h9) rfl dX5_setAges_60 ?_
  refine lv_iload_n hx hb dX5_setAges_63 rfl (lv_lk hl rfl) ?_
  refine lv_iload_n hx hb dX5_setAges_64 rfl (lv_lk hl rfl) ?_
  refine call_W (va_runS ⟨hx, hb, hml, hown, hts⟩ (m_X5_write l E (α 4) 6 z (cRU (up st (6 + 5 * z + 1) u)) v (by omega) (by omega)) (va_cwS 3 hts (gi_S ml_X5_63 st_X5_write it_X5 cd_X5_write) rfl rfl rfl (by decide +kernel) ⟨Nat.le_of_ble_eq_true rfl, Nat.le_of_ble_eq_true rfl⟩) (pR_S (hP.sub (ws' := [(α 4, iA E 6 (cRU (up st (6 + 5 * z + 1) u)))]) [10] rfl) hK) rfl rfl hl.1 rfl (lv_room (Nat.le_of_ble_eq_true rfl)) dX5_setAges_65 ⟨Nat.le_of_ble_eq_true rfl, Nat.le_of_ble_eq_true rfl⟩) hP (dm hD rfl) hS [10] rfl (by decide) rfl _ (rfl) rfl (fun H locs hP hS => ?_)
  have hP : va_P E.1 vwCl (pW E γ α (bN β n) (up (up st (6 + 5 * z + 1) u) (6 + 5 * z + 2) v) (sN sv st n) (((recN n : Nat) : Int)) N ac tx fs fn) H := pw_mid (w_ru (st := up st (6 + 5 * z + 1) u) z v hz) hP
  refine lv_iload hx hb dX5_setAges_68 (lv_lk hl rfl) ?_
  exact W.iret hx hb hrt (fun t ht hW => ⟨rfl, by rw [ht]; exact hP, hS.F ht⟩) hS.2.2 dX5_setAges_70 hlocks
set_option maxHeartbeats 4000000 in
set_option maxRecDepth 100000 in
theorem m_X5_replaceTruth (l : Launch) (E : Env3) (γ α : Nat → Nat) (β : Nat → Nat → Nat) (st : S) (sv : Nat → S) (N ac : Int) (tx fs fn : S) (hN : ndP γ α β) (n : Nat) (hn : n ≤ 6) (r : Nat) (hr : r < 36) (k v u : Int) : Met l yX5_replaceTruth (Cond.code yX5_replaceTruth cX5_replaceTruth 6 (some .int) :: ALL) ({ frames := 5, cells := 0, slots := 0, locals := 148 }) (pR [.ref (γ 0), .int (I (r : Int)), .int (I k), .int (I v), .int (I u)] E (pW E γ α β st sv ((n : Int)) N ac tx fs fn)) (qW (some (.int (I (st (36 + 6 * r))))) E (pW E γ α β st sv ((n : Int)) N ac tx fs fn) (pW E γ α (bN β n) (up (up (up st (36 + 6 * r) k) (36 + 6 * r + 1) v) (36 + 6 * r + 2) u) (sN sv st n) (((recN n : Nat) : Int)) N ac tx fs fn)) 0 0 (adIn (pW E γ α β st sv ((n : Int)) N ac tx fs fn)) := by
  refine mk_met (by decide) rfl (Nat.le_of_ble_eq_true rfl) ?_
  intro p e s m args below meth c hx hb hrt hml hts hown hlocks hnm hP hK ls hl
  have hown : s.vm.findClass RX5 = some m.cls := hown
  have hl : lv_has ls 6 [(0, .ref (γ 0)), (1, .int (I (r : Int))), (2, .int (I k)), (3, .int (I v)), (4, .int (I u))] := hl
  have hD : va_D (adIn (pW E γ α β st sv ((n : Int)) N ac tx fs fn)) (pW E γ α β st sv ((n : Int)) N ac tx fs fn) := D_pW hN
  have hS : va_S (adIn (pW E γ α β st sv ((n : Int)) N ac tx fs fn)) s.heap s.heap [] := va_S.rf
  refine lv_aload_n hx hb dX5_replaceTruth_0 rfl (lv_lk hl rfl) ?_
  refine call_F (va_runV ⟨hx, hb, hml, hown, hts⟩ (m_X5_save l E γ α β st sv N ac tx fs fn hN n hn) (cwV 0 hts (gi_V ml_X5_46 im_X5_save sl_X5_save it_X5 cd_X5_save) rfl rfl rfl (by decide +kernel) ⟨Nat.le_of_ble_eq_true rfl, Nat.le_of_ble_eq_true rfl⟩) (pR_V (q0 := 0) (ci := 5) hP hK rfl rfl) rfl rfl hl.1 rfl (lv_room (Nat.le_of_ble_eq_true rfl)) dX5_replaceTruth_1 ⟨Nat.le_of_ble_eq_true rfl, Nat.le_of_ble_eq_true rfl⟩) (dm hD rfl) hS rfl (fun H locs hP hS => ?_)
  have hP : va_P E.1 vwCl (pW E γ α (bN β n) st (sN sv st n) (((recN n : Nat) : Int)) N ac tx fs fn) H := hP
  have hD : va_D (adIn (pW E γ α β st sv ((n : Int)) N ac tx fs fn)) (pW E γ α (bN β n) st (sN sv st n) (((recN n : Nat) : Int)) N ac tx fs fn) := D_bN hN n
  refine lv_aload_n hx hb dX5_replaceTruth_4 rfl (lv_lk hl rfl) ?_
  refine va_get (D := E.1) (ci := 5) hx hb hts inX5 hown hK.1 hP 0 rfl rfl 0 (by decide) (hts _ fl_X5_10) (fun _ h9 => h9) rfl dX5_replaceTruth_5 ?_
  refine va_get (D := E.1) (ci := 3) hx hb hts inX3 hown hK.1 hP 6 rfl rfl 2 (by decide) (hts _ fl_X5_85) (fun _ h9 => h9) rfl dX5_replaceTruth_8 ?_
  refine lv_iload_n hx hb dX5_replaceTruth_11 rfl (lv_lk hl rfl) ?_
  refine call_S (va_runV ⟨hx, hb, hml, hown, hts⟩ (m_X2_kind l E (α 5) (α 6) (α 7) (α 8) (tK st) (tV st) (tA st) r (by omega)) (cwV 1 hts (gi_V ml_X5_89 im_X2_kind sl_X2_kind it_X2 cd_X2_kind) rfl rfl rfl (by decide +kernel) ⟨Nat.le_of_ble_eq_true rfl, Nat.le_of_ble_eq_true rfl⟩) (pR_V (q0 := 0) (ci := 2) (hP.sub (ws' := (repW E (α 5) (α 6) (α 7) (α 8) (tK st) (tV st) (tA st))) [11, 12, 13, 14] rfl) hK rfl rfl) rfl rfl hl.1 rfl (lv_room (Nat.le_of_ble_eq_true rfl)) dX5_replaceTruth_12 ⟨Nat.le_of_ble_eq_true rfl, Nat.le_of_ble_eq_true rfl⟩) (fun _ h => h) hS rfl (fun locs hS => ?_)
  refine lv_istore (lv' := [(5, .int (I _)), (0, .ref _), (1, .int (I _)), (2, .int (I _)), (3, .int (I _)), (4, .int (I _))]) hx hb dX5_replaceTruth_15 hl (by decide) rfl (fun ls hl => ?_)
  refine lv_aload_n hx hb dX5_replaceTruth_17 rfl (lv_lk hl rfl) ?_
  refine va_get (D := E.1) (ci := 5) hx hb hts inX5 hown hK.1 hP 0 rfl rfl 0 (by decide) (hts _ fl_X5_10) (fun _ h9 => h9) rfl dX5_replaceTruth_18 ?_
  refine va_get (D := E.1) (ci := 3) hx hb hts inX3 hown hK.1 hP 6 rfl rfl 2 (by decide) (hts _ fl_X5_85) (fun _ h9 => h9) rfl dX5_replaceTruth_21 ?_
  refine lv_iload_n hx hb dX5_replaceTruth_24 rfl (lv_lk hl rfl) ?_
  refine lv_iload_n hx hb dX5_replaceTruth_25 rfl (lv_lk hl rfl) ?_
  refine lv_iload_n hx hb dX5_replaceTruth_26 rfl (lv_lk hl rfl) ?_
  refine lv_iload hx hb dX5_replaceTruth_27 (lv_lk hl rfl) ?_
  refine call_W (va_runV ⟨hx, hb, hml, hown, hts⟩ (m_X2_put l E (α 5) (α 6) (α 7) (α 8) (tK st) (tV st) (tA st) (((dm (ws' := (pW E γ α (bN β n) st (sN sv st n) (((recN n : Nat) : Int)) N ac tx fs fn)) hD rfl).sub (ws' := (repW E (α 5) (α 6) (α 7) (α 8) (tK st) (tV st) (tA st))) [11, 12, 13, 14] (by decide) rfl).weaken (fun _ _ _ _ => trivial)) r hr k v u) (cwV 4 hts (gi_V ml_X5_278 im_X2_put sl_X2_put it_X2 cd_X2_put) rfl rfl rfl (by decide +kernel) ⟨Nat.le_of_ble_eq_true rfl, Nat.le_of_ble_eq_true rfl⟩) (pR_V (q0 := 0) (ci := 2) (hP.sub (ws' := (repW E (α 5) (α 6) (α 7) (α 8) (tK st) (tV st) (tA st))) [11, 12, 13, 14] rfl) hK rfl rfl) rfl rfl hl.1 rfl (lv_room (Nat.le_of_ble_eq_true rfl)) dX5_replaceTruth_29 ⟨Nat.le_of_ble_eq_true rfl, Nat.le_of_ble_eq_true rfl⟩) hP (dm hD rfl) hS [11, 12, 13, 14] rfl (by decide) rfl _ (rfl) rfl (fun H locs hP hS => ?_)
  have hP : va_P E.1 vwCl (pW E γ α (bN β n) (up (up (up st (36 + 6 * r) k) (36 + 6 * r + 1) v) (36 + 6 * r + 2) u) (sN sv st n) (((recN n : Nat) : Int)) N ac tx fs fn) H := pw_mid (w_tru (st := st) r k v u hr) hP
  refine lv_iload hx hb dX5_replaceTruth_32 (lv_lk hl rfl) ?_
  exact W.iret hx hb hrt (fun t ht hW => ⟨rfl, by rw [ht]; exact hP, hS.F ht⟩) hS.2.2 dX5_replaceTruth_34 hlocks
set_option maxHeartbeats 4000000 in
set_option maxRecDepth 100000 in
theorem m_X5_setAnswer_ok (l : Launch) (E : Env3) (γ α : Nat → Nat) (β : Nat → Nat → Nat) (st : S) (sv : Nat → S) (N ac : Int) (tx fs fn : S) (hN : ndP γ α β) (n : Nat) (hn : n ≤ 6) (r : Nat) (hr : r < 36) (v u : Int) (hv : 0 ≤ v ∧ v ≤ 99) (hu : 1 ≤ u ∧ u ≤ 99) : Met l yX5_setAnswer (Cond.code yX5_setAnswer cX5_setAnswer 4 (some .int) :: ALL) ({ frames := 7, cells := 0, slots := 0, locals := 173 }) (pR [.ref (γ 0), .int (I (r : Int)), .int (I v), .int (I u)] E (pW E γ α β st sv ((n : Int)) N ac tx fs fn)) (qW (some (.int (I (st (36 + 6 * r))))) E (pW E γ α β st sv ((n : Int)) N ac tx fs fn) (pW E γ α (bN β n) (up (up (up st (36 + 6 * r) 1) (36 + 6 * r + 1) v) (36 + 6 * r + 2) u) (sN sv st n) (((recN n : Nat) : Int)) N ac tx fs fn)) 0 0 (adIn (pW E γ α β st sv ((n : Int)) N ac tx fs fn)) := by
  refine mk_met (by decide) rfl (Nat.le_of_ble_eq_true rfl) ?_
  intro p e s m args below meth c hx hb hrt hml hts hown hlocks hnm hP hK ls hl
  have hown : s.vm.findClass RX5 = some m.cls := hown
  have hl : lv_has ls 4 [(0, .ref (γ 0)), (1, .int (I (r : Int))), (2, .int (I v)), (3, .int (I u))] := hl
  have hD : va_D (adIn (pW E γ α β st sv ((n : Int)) N ac tx fs fn)) (pW E γ α β st sv ((n : Int)) N ac tx fs fn) := D_pW hN
  have hS : va_S (adIn (pW E γ α β st sv ((n : Int)) N ac tx fs fn)) s.heap s.heap [] := va_S.rf
  refine lv_iload_n hx hb dX5_setAnswer_0 rfl (lv_lk hl rfl) ?_
  refine call_S (va_runS ⟨hx, hb, hml, hown, hts⟩ (m_X5_requireRiddle_ok l E (r : Int) (by omega)) (va_cwS 1 hts (gi_S ml_X5_73 st_X5_requireRiddle it_X5 cd_X5_requireRiddle) rfl rfl rfl (by decide +kernel) ⟨Nat.le_of_ble_eq_true rfl, Nat.le_of_ble_eq_true rfl⟩) (pR_S (hP.sub (ws' := []) [] rfl) hK) rfl rfl hl.1 rfl (lv_room (Nat.le_of_ble_eq_true rfl)) dX5_setAnswer_1 ⟨Nat.le_of_ble_eq_true rfl, Nat.le_of_ble_eq_true rfl⟩) (fun _ h => h) hS rfl (fun locs hS => ?_)
  refine lv_iload_n hx hb dX5_setAnswer_4 rfl (lv_lk hl rfl) ?_
  refine iv_iconst hx hb dX5_setAnswer_5 ?_
  refine iv_bipush hx hb dX5_setAnswer_6 (by decide +kernel) ?_
  refine call_S (va_runS ⟨hx, hb, hml, hown, hts⟩ (m_X5_requireRange_ok l E v 0 99 (by omega) (by omega) (by omega) (by omega)) (va_cwS 3 hts (gi_S ml_X5_42 st_X5_requireRange it_X5 cd_X5_requireRange) rfl rfl rfl (by decide +kernel) ⟨Nat.le_of_ble_eq_true rfl, Nat.le_of_ble_eq_true rfl⟩) (pR_S (hP.sub (ws' := []) [] rfl) hK) rfl rfl hl.1 rfl (lv_room (Nat.le_of_ble_eq_true rfl)) dX5_setAnswer_8 ⟨Nat.le_of_ble_eq_true rfl, Nat.le_of_ble_eq_true rfl⟩) (fun _ h => h) hS rfl (fun locs hS => ?_)
  refine lv_iload_n hx hb dX5_setAnswer_11 rfl (lv_lk hl rfl) ?_
  refine iv_iconst hx hb dX5_setAnswer_12 ?_
  refine iv_bipush hx hb dX5_setAnswer_13 (by decide +kernel) ?_
  refine call_S (va_runS ⟨hx, hb, hml, hown, hts⟩ (m_X5_requireRange_ok l E u 1 99 (by omega) (by omega) (by omega) (by omega)) (va_cwS 3 hts (gi_S ml_X5_42 st_X5_requireRange it_X5 cd_X5_requireRange) rfl rfl rfl (by decide +kernel) ⟨Nat.le_of_ble_eq_true rfl, Nat.le_of_ble_eq_true rfl⟩) (pR_S (hP.sub (ws' := []) [] rfl) hK) rfl rfl hl.1 rfl (lv_room (Nat.le_of_ble_eq_true rfl)) dX5_setAnswer_15 ⟨Nat.le_of_ble_eq_true rfl, Nat.le_of_ble_eq_true rfl⟩) (fun _ h => h) hS rfl (fun locs hS => ?_)
  refine lv_aload_n hx hb dX5_setAnswer_18 rfl (lv_lk hl rfl) ?_
  refine lv_iload_n hx hb dX5_setAnswer_19 rfl (lv_lk hl rfl) ?_
  refine iv_iconst hx hb dX5_setAnswer_20 ?_
  refine lv_iload_n hx hb dX5_setAnswer_21 rfl (lv_lk hl rfl) ?_
  refine lv_iload_n hx hb dX5_setAnswer_22 rfl (lv_lk hl rfl) ?_
  refine call_F (va_runV ⟨hx, hb, hml, hown, hts⟩ (m_X5_replaceTruth l E γ α β st sv N ac tx fs fn hN n hn r hr 1 v u) (cwV 4 hts (gi_V ml_X5_76 im_X5_replaceTruth sl_X5_replaceTruth it_X5 cd_X5_replaceTruth) rfl rfl rfl (by decide +kernel) ⟨Nat.le_of_ble_eq_true rfl, Nat.le_of_ble_eq_true rfl⟩) (pR_V (q0 := 0) (ci := 5) hP hK rfl rfl) rfl rfl hl.1 rfl (lv_room (Nat.le_of_ble_eq_true rfl)) dX5_setAnswer_23 ⟨Nat.le_of_ble_eq_true rfl, Nat.le_of_ble_eq_true rfl⟩) (dm hD rfl) hS rfl (fun H locs hP hS => ?_)
  have hP : va_P E.1 vwCl (pW E γ α (bN β n) (up (up (up st (36 + 6 * r) 1) (36 + 6 * r + 1) v) (36 + 6 * r + 2) u) (sN sv st n) (((recN n : Nat) : Int)) N ac tx fs fn) H := hP
  exact W.iret hx hb hrt (fun t ht hW => ⟨rfl, by rw [ht]; exact hP, hS.F ht⟩) hS.2.2 dX5_setAnswer_26 hlocks
set_option maxHeartbeats 4000000 in
set_option maxRecDepth 100000 in
theorem m_X5_setReference_ok (l : Launch) (E : Env3) (γ α : Nat → Nat) (β : Nat → Nat → Nat) (st : S) (sv : Nat → S) (N ac : Int) (tx fs fn : S) (hN : ndP γ α β) (n : Nat) (hn : n ≤ 6) (r q : Nat) (hr : r < 36) (hq : q < 36) (hne : q ≠ r) (u : Int) (hu : 1 ≤ u ∧ u ≤ 99) : Met l yX5_setReference (Cond.code yX5_setReference cX5_setReference 4 (some .int) :: ALL) ({ frames := 7, cells := 0, slots := 0, locals := 173 }) (pR [.ref (γ 0), .int (I (r : Int)), .int (I (q : Int)), .int (I u)] E (pW E γ α β st sv ((n : Int)) N ac tx fs fn)) (qW (some (.int (I (st (36 + 6 * r))))) E (pW E γ α β st sv ((n : Int)) N ac tx fs fn) (pW E γ α (bN β n) (up (up (up st (36 + 6 * r) 2) (36 + 6 * r + 1) (q : Int)) (36 + 6 * r + 2) u) (sN sv st n) (((recN n : Nat) : Int)) N ac tx fs fn)) 0 0 (adIn (pW E γ α β st sv ((n : Int)) N ac tx fs fn)) := by
  refine mk_met (by decide) rfl (Nat.le_of_ble_eq_true rfl) ?_
  intro p e s m args below meth c hx hb hrt hml hts hown hlocks hnm hP hK ls hl
  have hown : s.vm.findClass RX5 = some m.cls := hown
  have hl : lv_has ls 4 [(0, .ref (γ 0)), (1, .int (I (r : Int))), (2, .int (I (q : Int))), (3, .int (I u))] := hl
  have hD : va_D (adIn (pW E γ α β st sv ((n : Int)) N ac tx fs fn)) (pW E γ α β st sv ((n : Int)) N ac tx fs fn) := D_pW hN
  have hS : va_S (adIn (pW E γ α β st sv ((n : Int)) N ac tx fs fn)) s.heap s.heap [] := va_S.rf
  refine lv_iload_n hx hb dX5_setReference_0 rfl (lv_lk hl rfl) ?_
  refine call_S (va_runS ⟨hx, hb, hml, hown, hts⟩ (m_X5_requireRiddle_ok l E (r : Int) (by omega)) (va_cwS 1 hts (gi_S ml_X5_73 st_X5_requireRiddle it_X5 cd_X5_requireRiddle) rfl rfl rfl (by decide +kernel) ⟨Nat.le_of_ble_eq_true rfl, Nat.le_of_ble_eq_true rfl⟩) (pR_S (hP.sub (ws' := []) [] rfl) hK) rfl rfl hl.1 rfl (lv_room (Nat.le_of_ble_eq_true rfl)) dX5_setReference_1 ⟨Nat.le_of_ble_eq_true rfl, Nat.le_of_ble_eq_true rfl⟩) (fun _ h => h) hS rfl (fun locs hS => ?_)
  refine lv_iload_n hx hb dX5_setReference_4 rfl (lv_lk hl rfl) ?_
  refine call_S (va_runS ⟨hx, hb, hml, hown, hts⟩ (m_X5_requireRiddle_ok l E (q : Int) (by omega)) (va_cwS 1 hts (gi_S ml_X5_73 st_X5_requireRiddle it_X5 cd_X5_requireRiddle) rfl rfl rfl (by decide +kernel) ⟨Nat.le_of_ble_eq_true rfl, Nat.le_of_ble_eq_true rfl⟩) (pR_S (hP.sub (ws' := []) [] rfl) hK) rfl rfl hl.1 rfl (lv_room (Nat.le_of_ble_eq_true rfl)) dX5_setReference_5 ⟨Nat.le_of_ble_eq_true rfl, Nat.le_of_ble_eq_true rfl⟩) (fun _ h => h) hS rfl (fun locs hS => ?_)
  refine lv_iload_n hx hb dX5_setReference_8 rfl (lv_lk hl rfl) ?_
  refine lv_iload_n hx hb dX5_setReference_9 rfl (lv_lk hl rfl) ?_
  refine iv_icmp_ne (tgt := 23) hx hb dX5_setReference_10 (by decide) (by omega) (by omega) (fun c_10 => ?_) (fun c_10 => by exfalso; omega)
  refine lv_iload_n hx hb dX5_setReference_23 rfl (lv_lk hl rfl) ?_
  refine iv_iconst hx hb dX5_setReference_24 ?_
  refine iv_bipush hx hb dX5_setReference_25 (by decide +kernel) ?_
  refine call_S (va_runS ⟨hx, hb, hml, hown, hts⟩ (m_X5_requireRange_ok l E u 1 99 (by omega) (by omega) (by omega) (by omega)) (va_cwS 3 hts (gi_S ml_X5_42 st_X5_requireRange it_X5 cd_X5_requireRange) rfl rfl rfl (by decide +kernel) ⟨Nat.le_of_ble_eq_true rfl, Nat.le_of_ble_eq_true rfl⟩) (pR_S (hP.sub (ws' := []) [] rfl) hK) rfl rfl hl.1 rfl (lv_room (Nat.le_of_ble_eq_true rfl)) dX5_setReference_27 ⟨Nat.le_of_ble_eq_true rfl, Nat.le_of_ble_eq_true rfl⟩) (fun _ h => h) hS rfl (fun locs hS => ?_)
  refine lv_aload_n hx hb dX5_setReference_30 rfl (lv_lk hl rfl) ?_
  refine lv_iload_n hx hb dX5_setReference_31 rfl (lv_lk hl rfl) ?_
  refine iv_iconst hx hb dX5_setReference_32 ?_
  refine lv_iload_n hx hb dX5_setReference_33 rfl (lv_lk hl rfl) ?_
  refine lv_iload_n hx hb dX5_setReference_34 rfl (lv_lk hl rfl) ?_
  refine call_F (va_runV ⟨hx, hb, hml, hown, hts⟩ (m_X5_replaceTruth l E γ α β st sv N ac tx fs fn hN n hn r hr 2 (q : Int) u) (cwV 4 hts (gi_V ml_X5_76 im_X5_replaceTruth sl_X5_replaceTruth it_X5 cd_X5_replaceTruth) rfl rfl rfl (by decide +kernel) ⟨Nat.le_of_ble_eq_true rfl, Nat.le_of_ble_eq_true rfl⟩) (pR_V (q0 := 0) (ci := 5) hP hK rfl rfl) rfl rfl hl.1 rfl (lv_room (Nat.le_of_ble_eq_true rfl)) dX5_setReference_35 ⟨Nat.le_of_ble_eq_true rfl, Nat.le_of_ble_eq_true rfl⟩) (dm hD rfl) hS rfl (fun H locs hP hS => ?_)
  have hP : va_P E.1 vwCl (pW E γ α (bN β n) (up (up (up st (36 + 6 * r) 2) (36 + 6 * r + 1) (q : Int)) (36 + 6 * r + 2) u) (sN sv st n) (((recN n : Nat) : Int)) N ac tx fs fn) H := hP
  exact W.iret hx hb hrt (fun t ht hW => ⟨rfl, by rw [ht]; exact hP, hS.F ht⟩) hS.2.2 dX5_setReference_38 hlocks
set_option maxHeartbeats 4000000 in
set_option maxRecDepth 100000 in
theorem m_X5_takeAway_ok (l : Launch) (E : Env3) (γ α : Nat → Nat) (β : Nat → Nat → Nat) (st : S) (sv : Nat → S) (N ac : Int) (tx fs fn : S) (hN : ndP γ α β) (n : Nat) (hn : n ≤ 6) (r : Nat) (hr : r < 36) (hk0 : st (36 + 6 * r) ≠ 0) (hk9 : -2147483648 ≤ st (36 + 6 * r) ∧ st (36 + 6 * r) ≤ 2147483647) : Met l yX5_takeAway (Cond.code yX5_takeAway cX5_takeAway 2 (some .int) :: ALL) ({ frames := 7, cells := 0, slots := 0, locals := 173 }) (pR [.ref (γ 0), .int (I (r : Int))] E (pW E γ α β st sv ((n : Int)) N ac tx fs fn)) (qW (some (.int (I (st (36 + 6 * r))))) E (pW E γ α β st sv ((n : Int)) N ac tx fs fn) (pW E γ α (bN β n) (up (up (up st (36 + 6 * r) 0) (36 + 6 * r + 1) (-1)) (36 + 6 * r + 2) 0) (sN sv st n) (((recN n : Nat) : Int)) N ac tx fs fn)) 0 0 (adIn (pW E γ α β st sv ((n : Int)) N ac tx fs fn)) := by
  refine mk_met (by decide) rfl (Nat.le_of_ble_eq_true rfl) ?_
  intro p e s m args below meth c hx hb hrt hml hts hown hlocks hnm hP hK ls hl
  have hown : s.vm.findClass RX5 = some m.cls := hown
  have hl : lv_has ls 2 [(0, .ref (γ 0)), (1, .int (I (r : Int)))] := hl
  have hD : va_D (adIn (pW E γ α β st sv ((n : Int)) N ac tx fs fn)) (pW E γ α β st sv ((n : Int)) N ac tx fs fn) := D_pW hN
  have hS : va_S (adIn (pW E γ α β st sv ((n : Int)) N ac tx fs fn)) s.heap s.heap [] := va_S.rf
  refine lv_iload_n hx hb dX5_takeAway_0 rfl (lv_lk hl rfl) ?_
  refine call_S (va_runS ⟨hx, hb, hml, hown, hts⟩ (m_X5_requireRiddle_ok l E (r : Int) (by omega)) (va_cwS 1 hts (gi_S ml_X5_73 st_X5_requireRiddle it_X5 cd_X5_requireRiddle) rfl rfl rfl (by decide +kernel) ⟨Nat.le_of_ble_eq_true rfl, Nat.le_of_ble_eq_true rfl⟩) (pR_S (hP.sub (ws' := []) [] rfl) hK) rfl rfl hl.1 rfl (lv_room (Nat.le_of_ble_eq_true rfl)) dX5_takeAway_1 ⟨Nat.le_of_ble_eq_true rfl, Nat.le_of_ble_eq_true rfl⟩) (fun _ h => h) hS rfl (fun locs hS => ?_)
  refine lv_aload_n hx hb dX5_takeAway_4 rfl (lv_lk hl rfl) ?_
  refine va_get (D := E.1) (ci := 5) hx hb hts inX5 hown hK.1 hP 0 rfl rfl 0 (by decide) (hts _ fl_X5_10) (fun _ h9 => h9) rfl dX5_takeAway_5 ?_
  refine va_get (D := E.1) (ci := 3) hx hb hts inX3 hown hK.1 hP 6 rfl rfl 2 (by decide) (hts _ fl_X5_85) (fun _ h9 => h9) rfl dX5_takeAway_8 ?_
  refine lv_iload_n hx hb dX5_takeAway_11 rfl (lv_lk hl rfl) ?_
  refine call_S (va_runV ⟨hx, hb, hml, hown, hts⟩ (m_X2_kind l E (α 5) (α 6) (α 7) (α 8) (tK st) (tV st) (tA st) r (by omega)) (cwV 1 hts (gi_V ml_X5_89 im_X2_kind sl_X2_kind it_X2 cd_X2_kind) rfl rfl rfl (by decide +kernel) ⟨Nat.le_of_ble_eq_true rfl, Nat.le_of_ble_eq_true rfl⟩) (pR_V (q0 := 0) (ci := 2) (hP.sub (ws' := (repW E (α 5) (α 6) (α 7) (α 8) (tK st) (tV st) (tA st))) [11, 12, 13, 14] rfl) hK rfl rfl) rfl rfl hl.1 rfl (lv_room (Nat.le_of_ble_eq_true rfl)) dX5_takeAway_12 ⟨Nat.le_of_ble_eq_true rfl, Nat.le_of_ble_eq_true rfl⟩) (fun _ h => h) hS rfl (fun locs hS => ?_)
  refine iv_eq (st (36 + 6 * r)) (rfl) ?_
  refine iv_if_ne (tgt := 28) hx hb dX5_takeAway_15 (by decide) (by omega) (fun c_15 => ?_) (fun c_15 => by exfalso; omega)
  refine lv_aload_n hx hb dX5_takeAway_28 rfl (lv_lk hl rfl) ?_
  refine lv_iload_n hx hb dX5_takeAway_29 rfl (lv_lk hl rfl) ?_
  refine iv_iconst hx hb dX5_takeAway_30 ?_
  refine iv_iconst hx hb dX5_takeAway_31 ?_
  refine iv_iconst hx hb dX5_takeAway_32 ?_
  refine call_F (va_runV ⟨hx, hb, hml, hown, hts⟩ (m_X5_replaceTruth l E γ α β st sv N ac tx fs fn hN n hn r hr 0 (-1) 0) (cwV 4 hts (gi_V ml_X5_76 im_X5_replaceTruth sl_X5_replaceTruth it_X5 cd_X5_replaceTruth) rfl rfl rfl (by decide +kernel) ⟨Nat.le_of_ble_eq_true rfl, Nat.le_of_ble_eq_true rfl⟩) (pR_V (q0 := 0) (ci := 5) hP hK rfl rfl) rfl rfl hl.1 rfl (lv_room (Nat.le_of_ble_eq_true rfl)) dX5_takeAway_33 ⟨Nat.le_of_ble_eq_true rfl, Nat.le_of_ble_eq_true rfl⟩) (dm hD rfl) hS rfl (fun H locs hP hS => ?_)
  have hP : va_P E.1 vwCl (pW E γ α (bN β n) (up (up (up st (36 + 6 * r) 0) (36 + 6 * r + 1) (-1)) (36 + 6 * r + 2) 0) (sN sv st n) (((recN n : Nat) : Int)) N ac tx fs fn) H := hP
  exact W.iret hx hb hrt (fun t ht hW => ⟨rfl, by rw [ht]; exact hP, hS.F ht⟩) hS.2.2 dX5_takeAway_36 hlocks
set_option maxHeartbeats 4000000 in
set_option maxRecDepth 100000 in
theorem m_X5_solve_ok (l : Launch) (E : Env3) (γ α : Nat → Nat) (β : Nat → Nat → Nat) (st : S) (sv : Nat → S) (N ac : Int) (tx fs fn : S) (hN : ndP γ α β) (n : Nat) (hn : n ≤ 6) (T : Int) (hI : IB T st) (r : Nat) (hr : r < 36) : Met l yX5_solve (Cond.code yX5_solve cX5_solve 2 (some .int) :: ALL) ({ frames := 7, cells := 0, slots := 0, locals := 148 }) (pR [.ref (γ 0), .int (I (r : Int))] E (pW E γ α β st sv ((n : Int)) N ac tx fs fn)) (qW (some (.int (I ((solve1 st r).2)))) E (pW E γ α β st sv ((n : Int)) N ac tx fs fn) (pW E γ α (bN β n) ((solve1 st r).1) (sN sv st n) (((recN n : Nat) : Int)) N ac tx fs fn)) 0 0 (adIn (pW E γ α β st sv ((n : Int)) N ac tx fs fn)) := by
  refine mk_met (by decide) rfl (Nat.le_of_ble_eq_true rfl) ?_
  intro p e s m args below meth c hx hb hrt hml hts hown hlocks hnm hP hK ls hl
  have hown : s.vm.findClass RX5 = some m.cls := hown
  have hl : lv_has ls 2 [(0, .ref (γ 0)), (1, .int (I (r : Int)))] := hl
  have hD : va_D (adIn (pW E γ α β st sv ((n : Int)) N ac tx fs fn)) (pW E γ α β st sv ((n : Int)) N ac tx fs fn) := D_pW hN
  have hS : va_S (adIn (pW E γ α β st sv ((n : Int)) N ac tx fs fn)) s.heap s.heap [] := va_S.rf
  refine lv_iload_n hx hb dX5_solve_0 rfl (lv_lk hl rfl) ?_
  refine call_S (va_runS ⟨hx, hb, hml, hown, hts⟩ (m_X5_requireRiddle_ok l E (r : Int) (by omega)) (va_cwS 1 hts (gi_S ml_X5_73 st_X5_requireRiddle it_X5 cd_X5_requireRiddle) rfl rfl rfl (by decide +kernel) ⟨Nat.le_of_ble_eq_true rfl, Nat.le_of_ble_eq_true rfl⟩) (pR_S (hP.sub (ws' := []) [] rfl) hK) rfl rfl hl.1 rfl (lv_room (Nat.le_of_ble_eq_true rfl)) dX5_solve_1 ⟨Nat.le_of_ble_eq_true rfl, Nat.le_of_ble_eq_true rfl⟩) (fun _ h => h) hS rfl (fun locs hS => ?_)
  refine lv_aload_n hx hb dX5_solve_4 rfl (lv_lk hl rfl) ?_
  refine call_F (va_runV ⟨hx, hb, hml, hown, hts⟩ (m_X5_save l E γ α β st sv N ac tx fs fn hN n hn) (cwV 0 hts (gi_V ml_X5_46 im_X5_save sl_X5_save it_X5 cd_X5_save) rfl rfl rfl (by decide +kernel) ⟨Nat.le_of_ble_eq_true rfl, Nat.le_of_ble_eq_true rfl⟩) (pR_V (q0 := 0) (ci := 5) hP hK rfl rfl) rfl rfl hl.1 rfl (lv_room (Nat.le_of_ble_eq_true rfl)) dX5_solve_5 ⟨Nat.le_of_ble_eq_true rfl, Nat.le_of_ble_eq_true rfl⟩) (dm hD rfl) hS rfl (fun H locs hP hS => ?_)
  have hP : va_P E.1 vwCl (pW E γ α (bN β n) st (sN sv st n) (((recN n : Nat) : Int)) N ac tx fs fn) H := hP
  have hD : va_D (adIn (pW E γ α β st sv ((n : Int)) N ac tx fs fn)) (pW E γ α (bN β n) st (sN sv st n) (((recN n : Nat) : Int)) N ac tx fs fn) := D_bN hN n
  refine lv_aload_n hx hb dX5_solve_8 rfl (lv_lk hl rfl) ?_
  refine va_get (D := E.1) (ci := 5) hx hb hts inX5 hown hK.1 hP 0 rfl rfl 0 (by decide) (hts _ fl_X5_10) (fun _ h9 => h9) rfl dX5_solve_9 ?_
  refine lv_iload_n hx hb dX5_solve_12 rfl (lv_lk hl rfl) ?_
  refine call_M (X := (hdW E γ (α 0) [(bN β n) 0 0, (bN β n) 1 0, (bN β n) 2 0, (bN β n) 3 0, (bN β n) 4 0, (bN β n) 5 0] (((recN n : Nat) : Int)) N ac tx fs fn)) (Y := (stW E α st)) (Z := (svS E (bN β n) (sN sv st n))) (Y1 := (stW E α ((solve1 st r).1))) (va_runV ⟨hx, hb, hml, hown, hts⟩ (m_X3_findResult l E α st (ndP_dR hN) T hI r hr) (cwV 1 hts (gi_V ml_X5_100 im_X3_findResult sl_X3_findResult it_X3 cd_X3_findResult) rfl rfl rfl (by decide +kernel) ⟨Nat.le_of_ble_eq_true rfl, Nat.le_of_ble_eq_true rfl⟩) (pR_V (q0 := 0) (ci := 3) (hP.sub (ws' := (stW E α st)) [6, 7, 8, 9, 10, 11, 12, 13, 14, 15, 16, 17, 18, 19, 20, 21] rfl) hK rfl rfl) rfl rfl hl.1 rfl (lv_room (Nat.le_of_ble_eq_true rfl)) dX5_solve_13 ⟨Nat.le_of_ble_eq_true rfl, Nat.le_of_ble_eq_true rfl⟩) hP (dm hD rfl) hS rfl (fun H locs hP hS => ?_)
  have hP : va_P E.1 vwCl (pW E γ α (bN β n) ((solve1 st r).1) (sN sv st n) (((recN n : Nat) : Int)) N ac tx fs fn) H := hP
  exact W.iret hx hb hrt (fun t ht hW => ⟨rfl, by rw [ht]; exact hP, hS.F ht⟩) hS.2.2 dX5_solve_16 hlocks
set_option maxHeartbeats 4000000 in
set_option maxRecDepth 100000 in
theorem m_X5_forget_ok (l : Launch) (E : Env3) (γ α : Nat → Nat) (β : Nat → Nat → Nat) (st : S) (sv : Nat → S) (N ac : Int) (tx fs fn : S) (hN : ndP γ α β) (n : Nat) (hn : n ≤ 6) (r : Nat) (hr : r < 36) (hk0 : st (36 + 6 * r + 3) ≠ 0) (hk9 : -2147483648 ≤ st (36 + 6 * r + 3) ∧ st (36 + 6 * r + 3) ≤ 2147483647) : Met l yX5_forget (Cond.code yX5_forget cX5_forget 3 (some .int) :: ALL) ({ frames := 7, cells := 0, slots := 0, locals := 148 }) (pR [.ref (γ 0), .int (I (r : Int))] E (pW E γ α β st sv ((n : Int)) N ac tx fs fn)) (qW (some (.int (I (st (36 + 6 * r + 3))))) E (pW E γ α β st sv ((n : Int)) N ac tx fs fn) (pW E γ α (bN β n) (forg st r) (sN sv st n) (((recN n : Nat) : Int)) N ac tx fs fn)) 0 0 (adIn (pW E γ α β st sv ((n : Int)) N ac tx fs fn)) := by
  refine mk_met (by decide) rfl (Nat.le_of_ble_eq_true rfl) ?_
  intro p e s m args below meth c hx hb hrt hml hts hown hlocks hnm hP hK ls hl
  have hown : s.vm.findClass RX5 = some m.cls := hown
  have hl : lv_has ls 3 [(0, .ref (γ 0)), (1, .int (I (r : Int)))] := hl
  have hD : va_D (adIn (pW E γ α β st sv ((n : Int)) N ac tx fs fn)) (pW E γ α β st sv ((n : Int)) N ac tx fs fn) := D_pW hN
  have hS : va_S (adIn (pW E γ α β st sv ((n : Int)) N ac tx fs fn)) s.heap s.heap [] := va_S.rf
  refine lv_iload_n hx hb dX5_forget_0 rfl (lv_lk hl rfl) ?_
  refine call_S (va_runS ⟨hx, hb, hml, hown, hts⟩ (m_X5_requireRiddle_ok l E (r : Int) (by omega)) (va_cwS 1 hts (gi_S ml_X5_73 st_X5_requireRiddle it_X5 cd_X5_requireRiddle) rfl rfl rfl (by decide +kernel) ⟨Nat.le_of_ble_eq_true rfl, Nat.le_of_ble_eq_true rfl⟩) (pR_S (hP.sub (ws' := []) [] rfl) hK) rfl rfl hl.1 rfl (lv_room (Nat.le_of_ble_eq_true rfl)) dX5_forget_1 ⟨Nat.le_of_ble_eq_true rfl, Nat.le_of_ble_eq_true rfl⟩) (fun _ h => h) hS rfl (fun locs hS => ?_)
  refine lv_aload_n hx hb dX5_forget_4 rfl (lv_lk hl rfl) ?_
  refine va_get (D := E.1) (ci := 5) hx hb hts inX5 hown hK.1 hP 0 rfl rfl 0 (by decide) (hts _ fl_X5_10) (fun _ h9 => h9) rfl dX5_forget_5 ?_
  refine va_get (D := E.1) (ci := 3) hx hb hts inX3 hown hK.1 hP 6 rfl rfl 3 (by decide) (hts _ fl_X5_103) (fun _ h9 => h9) rfl dX5_forget_8 ?_
  refine lv_iload_n hx hb dX5_forget_11 rfl (lv_lk hl rfl) ?_
  refine call_S (va_runV ⟨hx, hb, hml, hown, hts⟩ (m_X2_kind l E (α 9) (α 10) (α 11) (α 12) (mK st) (mV st) (mE st) r (by omega)) (cwV 1 hts (gi_V ml_X5_89 im_X2_kind sl_X2_kind it_X2 cd_X2_kind) rfl rfl rfl (by decide +kernel) ⟨Nat.le_of_ble_eq_true rfl, Nat.le_of_ble_eq_true rfl⟩) (pR_V (q0 := 0) (ci := 2) (hP.sub (ws' := (repW E (α 9) (α 10) (α 11) (α 12) (mK st) (mV st) (mE st))) [15, 16, 17, 18] rfl) hK rfl rfl) rfl rfl hl.1 rfl (lv_room (Nat.le_of_ble_eq_true rfl)) dX5_forget_12 ⟨Nat.le_of_ble_eq_true rfl, Nat.le_of_ble_eq_true rfl⟩) (fun _ h => h) hS rfl (fun locs hS => ?_)
  refine iv_eq (st (36 + 6 * r + 3)) (rfl) ?_
  refine lv_istore_n (lv' := [(2, .int (I _)), (0, .ref _), (1, .int (I _))]) hx hb dX5_forget_15 rfl hl (by decide) rfl (fun ls hl => ?_)
  refine lv_iload_n hx hb dX5_forget_16 rfl (lv_lk hl rfl) ?_
  refine iv_if_ne (tgt := 30) hx hb dX5_forget_17 (by decide) (by omega) (fun c_17 => ?_) (fun c_17 => by exfalso; omega)
  refine lv_aload_n hx hb dX5_forget_30 rfl (lv_lk hl rfl) ?_
  refine call_F (va_runV ⟨hx, hb, hml, hown, hts⟩ (m_X5_save l E γ α β st sv N ac tx fs fn hN n hn) (cwV 0 hts (gi_V ml_X5_46 im_X5_save sl_X5_save it_X5 cd_X5_save) rfl rfl rfl (by decide +kernel) ⟨Nat.le_of_ble_eq_true rfl, Nat.le_of_ble_eq_true rfl⟩) (pR_V (q0 := 0) (ci := 5) hP hK rfl rfl) rfl rfl hl.1 rfl (lv_room (Nat.le_of_ble_eq_true rfl)) dX5_forget_31 ⟨Nat.le_of_ble_eq_true rfl, Nat.le_of_ble_eq_true rfl⟩) (dm hD rfl) hS rfl (fun H locs hP hS => ?_)
  have hP : va_P E.1 vwCl (pW E γ α (bN β n) st (sN sv st n) (((recN n : Nat) : Int)) N ac tx fs fn) H := hP
  have hD : va_D (adIn (pW E γ α β st sv ((n : Int)) N ac tx fs fn)) (pW E γ α (bN β n) st (sN sv st n) (((recN n : Nat) : Int)) N ac tx fs fn) := D_bN hN n
  refine lv_aload_n hx hb dX5_forget_34 rfl (lv_lk hl rfl) ?_
  refine va_get (D := E.1) (ci := 5) hx hb hts inX5 hown hK.1 hP 0 rfl rfl 0 (by decide) (hts _ fl_X5_10) (fun _ h9 => h9) rfl dX5_forget_35 ?_
  refine lv_iload_n hx hb dX5_forget_38 rfl (lv_lk hl rfl) ?_
  refine call_M (X := (hdW E γ (α 0) [(bN β n) 0 0, (bN β n) 1 0, (bN β n) 2 0, (bN β n) 3 0, (bN β n) 4 0, (bN β n) 5 0] (((recN n : Nat) : Int)) N ac tx fs fn)) (Y := (stW E α st)) (Z := (svS E (bN β n) (sN sv st n))) (Y1 := (stW E α (forg st r))) (va_runV ⟨hx, hb, hml, hown, hts⟩ (m_X3_dropReply l E α st (ndP_dR hN) r hr) (cwV 1 hts (gi_V ml_X5_108 im_X3_dropReply sl_X3_dropReply it_X3 cd_X3_dropReply) rfl rfl rfl (by decide +kernel) ⟨Nat.le_of_ble_eq_true rfl, Nat.le_of_ble_eq_true rfl⟩) (pR_V (q0 := 0) (ci := 3) (hP.sub (ws' := (stW E α st)) [6, 7, 8, 9, 10, 11, 12, 13, 14, 15, 16, 17, 18, 19, 20, 21] rfl) hK rfl rfl) rfl rfl hl.1 rfl (lv_room (Nat.le_of_ble_eq_true rfl)) dX5_forget_39 ⟨Nat.le_of_ble_eq_true rfl, Nat.le_of_ble_eq_true rfl⟩) hP (dm hD rfl) hS rfl (fun H locs hP hS => ?_)
  have hP : va_P E.1 vwCl (pW E γ α (bN β n) (forg st r) (sN sv st n) (((recN n : Nat) : Int)) N ac tx fs fn) H := hP
  refine lv_iload_n hx hb dX5_forget_42 rfl (lv_lk hl rfl) ?_
  exact W.iret hx hb hrt (fun t ht hW => ⟨rfl, by rw [ht]; exact hP, hS.F ht⟩) hS.2.2 dX5_forget_43 hlocks
set_option maxHeartbeats 4000000 in
set_option maxRecDepth 100000 in
theorem m_X5_pass_ok (l : Launch) (E : Env3) (γ α : Nat → Nat) (β : Nat → Nat → Nat) (st : S) (sv : Nat → S) (N ac : Int) (tx fs fn : S) (hN : ndP γ α β) (n : Nat) (hn : n ≤ 6) (T : Int) (hI : IB T st) (t : Int) (ht : 1 ≤ t ∧ t ≤ 99) (hT : T ≤ 99900) (h8 : st 0 + t ≤ 9999) : Met l yX5_pass (Cond.code yX5_pass cX5_pass 2 (some .int) :: ALL) ({ frames := 7, cells := 0, slots := 0, locals := 148 }) (pR [.ref (γ 0), .int (I t)] E (pW E γ α β st sv ((n : Int)) N ac tx fs fn)) (qW (some (.int (I (passes st t 5 - st 5)))) E (pW E γ α β st sv ((n : Int)) N ac tx fs fn) (pW E γ α (bN β n) (passes st t) (sN sv st n) (((recN n : Nat) : Int)) N ac tx fs fn)) 0 0 (adIn (pW E γ α β st sv ((n : Int)) N ac tx fs fn)) := by
  refine mk_met (by decide) rfl (Nat.le_of_ble_eq_true rfl) ?_
  intro p e s m args below meth c hx hb hrt hml hts hown hlocks hnm hP hK ls hl
  have hown : s.vm.findClass RX5 = some m.cls := hown
  have hl : lv_has ls 2 [(0, .ref (γ 0)), (1, .int (I t))] := hl
  have hD : va_D (adIn (pW E γ α β st sv ((n : Int)) N ac tx fs fn)) (pW E γ α β st sv ((n : Int)) N ac tx fs fn) := D_pW hN
  have hS : va_S (adIn (pW E γ α β st sv ((n : Int)) N ac tx fs fn)) s.heap s.heap [] := va_S.rf
  have h09 := hI.1
  refine lv_iload_n hx hb dX5_pass_0 rfl (lv_lk hl rfl) ?_
  refine iv_iconst hx hb dX5_pass_1 ?_
  refine iv_bipush hx hb dX5_pass_2 (by decide +kernel) ?_
  refine call_S (va_runS ⟨hx, hb, hml, hown, hts⟩ (m_X5_requireRange_ok l E t 1 99 (by omega) (by omega) (by omega) (by omega)) (va_cwS 3 hts (gi_S ml_X5_42 st_X5_requireRange it_X5 cd_X5_requireRange) rfl rfl rfl (by decide +kernel) ⟨Nat.le_of_ble_eq_true rfl, Nat.le_of_ble_eq_true rfl⟩) (pR_S (hP.sub (ws' := []) [] rfl) hK) rfl rfl hl.1 rfl (lv_room (Nat.le_of_ble_eq_true rfl)) dX5_pass_4 ⟨Nat.le_of_ble_eq_true rfl, Nat.le_of_ble_eq_true rfl⟩) (fun _ h => h) hS rfl (fun locs hS => ?_)
  refine lv_aload_n hx hb dX5_pass_7 rfl (lv_lk hl rfl) ?_
  refine va_get (D := E.1) (ci := 5) hx hb hts inX5 hown hK.1 hP 0 rfl rfl 0 (by decide) (hts _ fl_X5_10) (fun _ h9 => h9) rfl dX5_pass_8 ?_
  refine lv_iload_n hx hb dX5_pass_11 rfl (lv_lk hl rfl) ?_
  refine call_S (va_runV ⟨hx, hb, hml, hown, hts⟩ (m_X3_hasRoomFor l E α st t (by omega) (by omega)) (cwV 1 hts (gi_V ml_X5_111 im_X3_hasRoomFor sl_X3_hasRoomFor it_X3 cd_X3_hasRoomFor) rfl rfl rfl (by decide +kernel) ⟨Nat.le_of_ble_eq_true rfl, Nat.le_of_ble_eq_true rfl⟩) (pR_V (q0 := 0) (ci := 3) (hP.sub (ws' := (stW E α st)) [6, 7, 8, 9, 10, 11, 12, 13, 14, 15, 16, 17, 18, 19, 20, 21] rfl) hK rfl rfl) rfl rfl hl.1 rfl (lv_room (Nat.le_of_ble_eq_true rfl)) dX5_pass_12 ⟨Nat.le_of_ble_eq_true rfl, Nat.le_of_ble_eq_true rfl⟩) (fun _ h => h) hS rfl (fun locs hS => ?_)
  refine iv_eq (1) (by rw [if_pos h8]) ?_
  refine iv_if_ne (tgt := 28) hx hb dX5_pass_15 (by decide) (by omega) (fun c_15 => ?_) (fun c_15 => by exfalso; omega)
  refine lv_aload_n hx hb dX5_pass_28 rfl (lv_lk hl rfl) ?_
  refine call_F (va_runV ⟨hx, hb, hml, hown, hts⟩ (m_X5_save l E γ α β st sv N ac tx fs fn hN n hn) (cwV 0 hts (gi_V ml_X5_46 im_X5_save sl_X5_save it_X5 cd_X5_save) rfl rfl rfl (by decide +kernel) ⟨Nat.le_of_ble_eq_true rfl, Nat.le_of_ble_eq_true rfl⟩) (pR_V (q0 := 0) (ci := 5) hP hK rfl rfl) rfl rfl hl.1 rfl (lv_room (Nat.le_of_ble_eq_true rfl)) dX5_pass_29 ⟨Nat.le_of_ble_eq_true rfl, Nat.le_of_ble_eq_true rfl⟩) (dm hD rfl) hS rfl (fun H locs hP hS => ?_)
  have hP : va_P E.1 vwCl (pW E γ α (bN β n) st (sN sv st n) (((recN n : Nat) : Int)) N ac tx fs fn) H := hP
  have hD : va_D (adIn (pW E γ α β st sv ((n : Int)) N ac tx fs fn)) (pW E γ α (bN β n) st (sN sv st n) (((recN n : Nat) : Int)) N ac tx fs fn) := D_bN hN n
  refine lv_aload_n hx hb dX5_pass_32 rfl (lv_lk hl rfl) ?_
  refine va_get (D := E.1) (ci := 5) hx hb hts inX5 hown hK.1 hP 0 rfl rfl 0 (by decide) (hts _ fl_X5_10) (fun _ h9 => h9) rfl dX5_pass_33 ?_
  refine lv_iload_n hx hb dX5_pass_36 rfl (lv_lk hl rfl) ?_
  refine call_M (X := (hdW E γ (α 0) [(bN β n) 0 0, (bN β n) 1 0, (bN β n) 2 0, (bN β n) 3 0, (bN β n) 4 0, (bN β n) 5 0] (((recN n : Nat) : Int)) N ac tx fs fn)) (Y := (stW E α st)) (Z := (svS E (bN β n) (sN sv st n))) (Y1 := (stW E α (passes st t))) (va_runV ⟨hx, hb, hml, hown, hts⟩ (m_X3_letPass l E α st (ndP_dR hN) T hI t (by omega)) (cwV 1 hts (gi_V ml_X5_117 im_X3_letPass sl_X3_letPass it_X3 cd_X3_letPass) rfl rfl rfl (by decide +kernel) ⟨Nat.le_of_ble_eq_true rfl, Nat.le_of_ble_eq_true rfl⟩) (pR_V (q0 := 0) (ci := 3) (hP.sub (ws' := (stW E α st)) [6, 7, 8, 9, 10, 11, 12, 13, 14, 15, 16, 17, 18, 19, 20, 21] rfl) hK rfl rfl) rfl rfl hl.1 rfl (lv_room (Nat.le_of_ble_eq_true rfl)) dX5_pass_37 ⟨Nat.le_of_ble_eq_true rfl, Nat.le_of_ble_eq_true rfl⟩) hP (dm hD rfl) hS rfl (fun H locs hP hS => ?_)
  have hP : va_P E.1 vwCl (pW E γ α (bN β n) (passes st t) (sN sv st n) (((recN n : Nat) : Int)) N ac tx fs fn) H := hP
  exact W.iret hx hb hrt (fun t ht hW => ⟨rfl, by rw [ht]; exact hP, hS.F ht⟩) hS.2.2 dX5_pass_40 hlocks
