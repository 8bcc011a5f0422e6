/-! the reference, seventh part; written by ref.py -/
theorem undo_st {hi st : S} {n j : Nat} (hj : j < 252) : layN hi (252 * n) st 0 252 j = (fun j => hi (252 * n + j)) j := by
  unfold layN
  rw [if_pos (by omega)]
  rfl
set_option maxHeartbeats 4000000 in
set_option maxRecDepth 100000 in
theorem m_X6_setParent_ok (l : Launch) (E : Env3) (ρ : Nat → Nat) (th tl pa kd nm : Int) (st hi ke tx wy : S) (hρ : dR ρ 6) (n : Nat) (hn : n ≤ 6) (z q : Nat) (hz : 1 ≤ z ∧ z < 6) (hq : q < z) : Met l yX6_setParent (Cond.code yX6_setParent cX6_setParent 4 (some .int) :: ALL) ({ frames := 2, cells := 0, slots := 0, locals := 45 }) (pR [.ref (ρ 0), .int (I (z : Int)), .int (I (q : Int))] E (refW E ρ th ((n : Int)) tl pa kd nm st hi ke tx wy)) (qW (some (.int (I (st (6 + 5 * z))))) E (refW E ρ th ((n : Int)) tl pa kd nm st hi ke tx wy) (refW E ρ 0 ((recN n : Int)) tl pa kd nm (up st (6 + 5 * z) q) (recH st hi n) ke tx wy)) 0 0 (adIn (refW E ρ th ((n : Int)) tl pa kd nm st hi ke tx wy)) := by
  refine mk_met (by decide) rfl (Nat.le_of_ble_eq_true rfl) ?_
  intro p e s m args below meth c hx hb hrt hml hts hown hlocks hnm hP hK ls hl
  have hown : s.vm.findClass RX6 = some m.cls := hown
  have hl : lv_has ls 4 [(0, .ref (ρ 0)), (1, .int (I (z : Int))), (2, .int (I (q : Int)))] := hl
  have hD : va_D (adIn (refW E ρ th ((n : Int)) tl pa kd nm st hi ke tx wy)) (refW E ρ th ((n : Int)) tl pa kd nm st hi ke tx wy) := D_of_dR hρ rfl
  have hS : va_S (adIn (refW E ρ th ((n : Int)) tl pa kd nm st hi ke tx wy)) s.heap s.heap [] := va_S.rf
  refine lv_aload_n hx hb dX6_setParent_0 rfl (lv_lk hl rfl) ?_
  refine lv_iload_n hx hb dX6_setParent_1 rfl (lv_lk hl rfl) ?_
  refine iv_iconst hx hb dX6_setParent_2 ?_
  refine iv_iconst hx hb dX6_setParent_3 ?_
  refine call_S (va_runS ⟨hx, hb, hml, hown, hts⟩ (m_X6_within l E ((z : Int)) 1 5 (by omega) (by omega) (by omega)) (va_cwS 3 hts (gi_S ml_X6_43 st_X6_within it_X6 cd_X6_within) rfl rfl rfl (by decide +kernel) ⟨Nat.le_of_ble_eq_true rfl, Nat.le_of_ble_eq_true rfl⟩) (pR_S (hP.sub (ws' := []) [] rfl) hK) rfl rfl hl.1 rfl (lv_room (Nat.le_of_ble_eq_true rfl)) dX6_setParent_4 ⟨Nat.le_of_ble_eq_true rfl, Nat.le_of_ble_eq_true rfl⟩) (fun _ h => h) hS rfl (fun locs hS => ?_)
  refine iv_eq (1) (by rw [if_pos (by omega)]) ?_
  refine iv_if_ne (tgt := 14) hx hb dX6_setParent_7 (by decide) (by omega) (fun c_7 => ?_) (fun c_7 => by exfalso; omega)
  refine lv_iload_n hx hb dX6_setParent_14 rfl (lv_lk hl rfl) ?_
  refine iv_iconst hx hb dX6_setParent_15 ?_
  refine lv_iload_n hx hb dX6_setParent_16 rfl (lv_lk hl rfl) ?_
  refine iv_iconst hx hb dX6_setParent_17 ?_
  refine iv_isub hx hb dX6_setParent_18 ?_
  refine call_S (va_runS ⟨hx, hb, hml, hown, hts⟩ (m_X6_within l E ((q : Int)) 0 ((z : Int) - 1) (by omega) (by omega) (by omega)) (va_cwS 3 hts (gi_S ml_X6_43 st_X6_within it_X6 cd_X6_within) rfl rfl rfl (by decide +kernel) ⟨Nat.le_of_ble_eq_true rfl, Nat.le_of_ble_eq_true rfl⟩) (pR_S (hP.sub (ws' := []) [] rfl) hK) rfl rfl hl.1 rfl (lv_room (Nat.le_of_ble_eq_true rfl)) dX6_setParent_19 ⟨Nat.le_of_ble_eq_true rfl, Nat.le_of_ble_eq_true rfl⟩) (fun _ h => h) hS rfl (fun locs hS => ?_)
  refine iv_eq (1) (by rw [if_pos (by omega)]) ?_
  refine iv_if_eq (tgt := 29) hx hb dX6_setParent_22 (by decide) (by omega) (fun c_22 => by exfalso; omega) (fun c_22 => ?_)
  refine iv_iconst hx hb dX6_setParent_25 ?_
  refine lv_goto (tgt := 30) hx hb dX6_setParent_26 (by decide) ?_
  refine va_put (ci := 6) (ty := .int) hx hb hts inX6 tyX6 tyX6_ok nmX6 hown hK.1 hP (dm hD rfl) hS 0 rfl rfl 0 (by decide) (hts _ fl_X6_32) (fun _ h9 => h9) rfl (by decide +kernel) rfl rfl (Nat.le_of_ble_eq_true rfl) dX6_setParent_30 (fun H locs hP _ hS => ?_)
  have hP : va_P E.1 vwCl (refW E ρ 0 ((n : Int)) tl pa kd nm st hi ke tx wy) H := hP
  refine lv_aload_n hx hb dX6_setParent_33 rfl (lv_lk hl rfl) ?_
  refine va_get (D := E.1) (ci := 6) hx hb hts inX6 hown hK.1 hP 0 rfl rfl 0 (by decide) (hts _ fl_X6_32) (fun _ h9 => h9) rfl dX6_setParent_34 ?_
  refine iv_if_le (tgt := 42) hx hb dX6_setParent_37 (by decide) (by omega) (fun c_37 => ?_) (fun c_37 => by exfalso; omega)
  refine lv_aload_n hx hb dX6_setParent_42 rfl (lv_lk hl rfl) ?_
  refine call_F (va_runV ⟨hx, hb, hml, hown, hts⟩ (m_X6_record l E ρ 0 tl pa kd nm st hi ke tx wy hρ n hn) (cwV 0 hts (gi_V ml_X6_47 im_X6_record sl_X6_record it_X6 cd_X6_record) rfl rfl rfl (by decide +kernel) ⟨Nat.le_of_ble_eq_true rfl, Nat.le_of_ble_eq_true rfl⟩) (pR_V (q0 := 0) (ci := 6) hP hK rfl rfl) rfl rfl hl.1 rfl (lv_room (Nat.le_of_ble_eq_true rfl)) dX6_setParent_43 ⟨Nat.le_of_ble_eq_true rfl, Nat.le_of_ble_eq_true rfl⟩) (dm hD rfl) hS rfl (fun H locs hP hS => ?_)
  have hP : va_P E.1 vwCl (refW E ρ 0 ((recN n : Int)) tl pa kd nm st (recH st hi n) ke tx wy) H := hP
  refine lv_aload_n hx hb dX6_setParent_46 rfl (lv_lk hl rfl) ?_
  refine lv_iload_n hx hb dX6_setParent_47 rfl (lv_lk hl rfl) ?_
  refine iv_iconst hx hb dX6_setParent_48 ?_
  refine call_S (va_runV ⟨hx, hb, hml, hown, hts⟩ (m_X6_ofZone l E ρ 0 ((recN n : Int)) tl pa kd nm st (recH st hi n) ke tx wy z 0 hz.2 (by decide)) (cwV 2 hts (gi_V ml_X6_50 im_X6_ofZone sl_X6_ofZone it_X6 cd_X6_ofZone) rfl rfl rfl (by decide +kernel) ⟨Nat.le_of_ble_eq_true rfl, Nat.le_of_ble_eq_true rfl⟩) (pR_V (q0 := 0) (ci := 6) hP hK rfl rfl) rfl rfl hl.1 rfl (lv_room (Nat.le_of_ble_eq_true rfl)) dX6_setParent_49 ⟨Nat.le_of_ble_eq_true rfl, Nat.le_of_ble_eq_true rfl⟩) (fun _ h => h) hS rfl (fun locs hS => ?_)
  refine lv_istore_n (lv' := [(3, .int (I _)), (0, .ref _), (1, .int (I _)), (2, .int (I _))]) hx hb dX6_setParent_52 rfl hl (by decide) rfl (fun ls hl => ?_)
  refine lv_aload_n hx hb dX6_setParent_53 rfl (lv_lk hl rfl) ?_
  refine lv_iload_n hx hb dX6_setParent_54 rfl (lv_lk hl rfl) ?_
  refine iv_iconst hx hb dX6_setParent_55 ?_
  refine lv_iload_n hx hb dX6_setParent_56 rfl (lv_lk hl rfl) ?_
  refine call_F (va_runV ⟨hx, hb, hml, hown, hts⟩ (m_X6_putsZone l E ρ 0 ((recN n : Int)) tl pa kd nm st (recH st hi n) ke tx wy hρ z 0 _ hz.2 (by decide)) (cwV 3 hts (gi_V ml_X6_25 im_X6_putsZone sl_X6_putsZone it_X6 cd_X6_putsZone) rfl rfl rfl (by decide +kernel) ⟨Nat.le_of_ble_eq_true rfl, Nat.le_of_ble_eq_true rfl⟩) (pR_V (q0 := 0) (ci := 6) hP hK rfl rfl) rfl rfl hl.1 rfl (lv_room (Nat.le_of_ble_eq_true rfl)) dX6_setParent_57 ⟨Nat.le_of_ble_eq_true rfl, Nat.le_of_ble_eq_true rfl⟩) (dm hD rfl) hS rfl (fun H locs hP hS => ?_)
  have hP : va_P E.1 vwCl (refW E ρ 0 ((recN n : Int)) tl pa kd nm (up st (6 + 5 * z) q) (recH st hi n) ke tx wy) H := hP
  refine lv_iload_n hx hb dX6_setParent_60 rfl (lv_lk hl rfl) ?_
  exact W.iret hx hb hrt (fun t ht hW => ⟨rfl, by rw [ht]; exact hP, hS.F ht⟩) hS.2.2 dX6_setParent_61 hlocks
set_option maxHeartbeats 4000000 in
set_option maxRecDepth 100000 in
theorem m_X6_setParent_bad1 (l : Launch) (E : Env3) (ρ : Nat → Nat) (th rc tl pa kd nm : Int) (st hi ke tx wy : S) (hρ : dR ρ 6) (z q : Int) (hz : -2147483648 ≤ z ∧ z ≤ 2147483647) (hq : -2147483648 ≤ q ∧ q ≤ 2147483647) (h1 : ¬ (1 ≤ z ∧ z ≤ 5)) : Met l yX6_setParent (Cond.code yX6_setParent cX6_setParent 4 (some .int) :: ALL) ({ frames := 2, cells := 0, slots := 0, locals := 45 }) (pR [.ref (ρ 0), .int (I z), .int (I q)] E (refW E ρ th rc tl pa kd nm st hi ke tx wy)) (qW (some (.int (I 0))) E (refW E ρ th rc tl pa kd nm st hi ke tx wy) (refW E ρ 1 rc tl pa kd nm st hi ke tx wy)) 0 0 (adIn (refW E ρ th rc tl pa kd nm st hi ke tx wy)) := by
  refine mk_met (by decide) rfl (Nat.le_of_ble_eq_true rfl) ?_
  intro p e s m args below meth c hx hb hrt hml hts hown hlocks hnm hP hK ls hl
  have hown : s.vm.findClass RX6 = some m.cls := hown
  have hl : lv_has ls 4 [(0, .ref (ρ 0)), (1, .int (I z)), (2, .int (I q))] := hl
  have hD : va_D (adIn (refW E ρ th rc tl pa kd nm st hi ke tx wy)) (refW E ρ th rc tl pa kd nm st hi ke tx wy) := D_of_dR hρ rfl
  have hS : va_S (adIn (refW E ρ th rc tl pa kd nm st hi ke tx wy)) s.heap s.heap [] := va_S.rf
  refine lv_aload_n hx hb dX6_setParent_0 rfl (lv_lk hl rfl) ?_
  refine lv_iload_n hx hb dX6_setParent_1 rfl (lv_lk hl rfl) ?_
  refine iv_iconst hx hb dX6_setParent_2 ?_
  refine iv_iconst hx hb dX6_setParent_3 ?_
  refine call_S (va_runS ⟨hx, hb, hml, hown, hts⟩ (m_X6_within l E z 1 5 (by omega) (by omega) (by omega)) (va_cwS 3 hts (gi_S ml_X6_43 st_X6_within it_X6 cd_X6_within) rfl rfl rfl (by decide +kernel) ⟨Nat.le_of_ble_eq_true rfl, Nat.le_of_ble_eq_true rfl⟩) (pR_S (hP.sub (ws' := []) [] rfl) hK) rfl rfl hl.1 rfl (lv_room (Nat.le_of_ble_eq_true rfl)) dX6_setParent_4 ⟨Nat.le_of_ble_eq_true rfl, Nat.le_of_ble_eq_true rfl⟩) (fun _ h => h) hS rfl (fun locs hS => ?_)
  refine iv_eq (0) (by rw [if_neg (by omega)]) ?_
  refine iv_if_ne (tgt := 14) hx hb dX6_setParent_7 (by decide) (by omega) (fun c_7 => by exfalso; omega) (fun c_7 => ?_)
  refine iv_iconst hx hb dX6_setParent_10 ?_
  refine lv_goto (tgt := 30) hx hb dX6_setParent_11 (by decide) ?_
  refine va_put (ci := 6) (ty := .int) hx hb hts inX6 tyX6 tyX6_ok nmX6 hown hK.1 hP (dm hD rfl) hS 0 rfl rfl 0 (by decide) (hts _ fl_X6_32) (fun _ h9 => h9) rfl (by decide +kernel) rfl rfl (Nat.le_of_ble_eq_true rfl) dX6_setParent_30 (fun H locs hP _ hS => ?_)
  have hP : va_P E.1 vwCl (refW E ρ 1 rc tl pa kd nm st hi ke tx wy) H := hP
  refine lv_aload_n hx hb dX6_setParent_33 rfl (lv_lk hl rfl) ?_
  refine va_get (D := E.1) (ci := 6) hx hb hts inX6 hown hK.1 hP 0 rfl rfl 0 (by decide) (hts _ fl_X6_32) (fun _ h9 => h9) rfl dX6_setParent_34 ?_
  refine iv_if_le (tgt := 42) hx hb dX6_setParent_37 (by decide) (by omega) (fun c_37 => by exfalso; omega) (fun c_37 => ?_)
  refine iv_iconst hx hb dX6_setParent_40 ?_
  exact W.iret hx hb hrt (fun t ht hW => ⟨rfl, by rw [ht]; exact hP, hS.F ht⟩) hS.2.2 dX6_setParent_41 hlocks
set_option maxHeartbeats 4000000 in
set_option maxRecDepth 100000 in
theorem m_X6_setParent_bad2 (l : Launch) (E : Env3) (ρ : Nat → Nat) (th rc tl pa kd nm : Int) (st hi ke tx wy : S) (hρ : dR ρ 6) (z q : Int) (hz : -2147483648 ≤ z ∧ z ≤ 2147483647) (hq : -2147483648 ≤ q ∧ q ≤ 2147483647) (h1 : 1 ≤ z ∧ z ≤ 5) (h2 : ¬ (0 ≤ q ∧ q < z)) : Met l yX6_setParent (Cond.code yX6_setParent cX6_setParent 4 (some .int) :: ALL) ({ frames := 2, cells := 0, slots := 0, locals := 45 }) (pR [.ref (ρ 0), .int (I z), .int (I q)] E (refW E ρ th rc tl pa kd nm st hi ke tx wy)) (qW (some (.int (I 0))) E (refW E ρ th rc tl pa kd nm st hi ke tx wy) (refW E ρ 2 rc tl pa kd nm st hi ke tx wy)) 0 0 (adIn (refW E ρ th rc tl pa kd nm st hi ke tx wy)) := by
  refine mk_met (by decide) rfl (Nat.le_of_ble_eq_true rfl) ?_
  intro p e s m args below meth c hx hb hrt hml hts hown hlocks hnm hP hK ls hl
  have hown : s.vm.findClass RX6 = some m.cls := hown
  have hl : lv_has ls 4 [(0, .ref (ρ 0)), (1, .int (I z)), (2, .int (I q))] := hl
  have hD : va_D (adIn (refW E ρ th rc tl pa kd nm st hi ke tx wy)) (refW E ρ th rc tl pa kd nm st hi ke tx wy) := D_of_dR hρ rfl
  have hS : va_S (adIn (refW E ρ th rc tl pa kd nm st hi ke tx wy)) s.heap s.heap [] := va_S.rf
  refine lv_aload_n hx hb dX6_setParent_0 rfl (lv_lk hl rfl) ?_
  refine lv_iload_n hx hb dX6_setParent_1 rfl (lv_lk hl rfl) ?_
  refine iv_iconst hx hb dX6_setParent_2 ?_
  refine iv_iconst hx hb dX6_setParent_3 ?_
  refine call_S (va_runS ⟨hx, hb, hml, hown, hts⟩ (m_X6_within l E z 1 5 (by omega) (by omega) (by omega)) (va_cwS 3 hts (gi_S ml_X6_43 st_X6_within it_X6 cd_X6_within) rfl rfl rfl (by decide +kernel) ⟨Nat.le_of_ble_eq_true rfl, Nat.le_of_ble_eq_true rfl⟩) (pR_S (hP.sub (ws' := []) [] rfl) hK) rfl rfl hl.1 rfl (lv_room (Nat.le_of_ble_eq_true rfl)) dX6_setParent_4 ⟨Nat.le_of_ble_eq_true rfl, Nat.le_of_ble_eq_true rfl⟩) (fun _ h => h) hS rfl (fun locs hS => ?_)
  refine iv_eq (1) (by rw [if_pos (by omega)]) ?_
  refine iv_if_ne (tgt := 14) hx hb dX6_setParent_7 (by decide) (by omega) (fun c_7 => ?_) (fun c_7 => by exfalso; omega)
  refine lv_iload_n hx hb dX6_setParent_14 rfl (lv_lk hl rfl) ?_
  refine iv_iconst hx hb dX6_setParent_15 ?_
  refine lv_iload_n hx hb dX6_setParent_16 rfl (lv_lk hl rfl) ?_
  refine iv_iconst hx hb dX6_setParent_17 ?_
  refine iv_isub hx hb dX6_setParent_18 ?_
  refine call_S (va_runS ⟨hx, hb, hml, hown, hts⟩ (m_X6_within l E q 0 (z - 1) (by omega) (by omega) (by omega)) (va_cwS 3 hts (gi_S ml_X6_43 st_X6_within it_X6 cd_X6_within) rfl rfl rfl (by decide +kernel) ⟨Nat.le_of_ble_eq_true rfl, Nat.le_of_ble_eq_true rfl⟩) (pR_S (hP.sub (ws' := []) [] rfl) hK) rfl rfl hl.1 rfl (lv_room (Nat.le_of_ble_eq_true rfl)) dX6_setParent_19 ⟨Nat.le_of_ble_eq_true rfl, Nat.le_of_ble_eq_true rfl⟩) (fun _ h => h) hS rfl (fun locs hS => ?_)
  refine iv_eq (0) (by rw [if_neg (by omega)]) ?_
  refine iv_if_eq (tgt := 29) hx hb dX6_setParent_22 (by decide) (by omega) (fun c_22 => ?_) (fun c_22 => by exfalso; omega)
  refine iv_iconst hx hb dX6_setParent_29 ?_
  refine va_put (ci := 6) (ty := .int) hx hb hts inX6 tyX6 tyX6_ok nmX6 hown hK.1 hP (dm hD rfl) hS 0 rfl rfl 0 (by decide) (hts _ fl_X6_32) (fun _ h9 => h9) rfl (by decide +kernel) rfl rfl (Nat.le_of_ble_eq_true rfl) dX6_setParent_30 (fun H locs hP _ hS => ?_)
  have hP : va_P E.1 vwCl (refW E ρ 2 rc tl pa kd nm st hi ke tx wy) H := hP
  refine lv_aload_n hx hb dX6_setParent_33 rfl (lv_lk hl rfl) ?_
  refine va_get (D := E.1) (ci := 6) hx hb hts inX6 hown hK.1 hP 0 rfl rfl 0 (by decide) (hts _ fl_X6_32) (fun _ h9 => h9) rfl dX6_setParent_34 ?_
  refine iv_if_le (tgt := 42) hx hb dX6_setParent_37 (by decide) (by omega) (fun c_37 => by exfalso; omega) (fun c_37 => ?_)
  refine iv_iconst hx hb dX6_setParent_40 ?_
  exact W.iret hx hb hrt (fun t ht hW => ⟨rfl, by rw [ht]; exact hP, hS.F ht⟩) hS.2.2 dX6_setParent_41 hlocks
set_option maxHeartbeats 4000000 in
set_option maxRecDepth 100000 in
theorem m_X6_setAges_ok (l : Launch) (E : Env3) (ρ : Nat → Nat) (th tl pa kd nm : Int) (st hi ke tx wy : S) (hρ : dR ρ 6) (n : Nat) (hn : n ≤ 6) (z : Nat) (a b : Int) (hz : z < 6) (ha : 1 ≤ a ∧ a ≤ 99) (hb9 : 1 ≤ b ∧ b ≤ 99) : Met l yX6_setAges (Cond.code yX6_setAges cX6_setAges 5 (some .int) :: ALL) ({ frames := 2, cells := 0, slots := 0, locals := 45 }) (pR [.ref (ρ 0), .int (I (z : Int)), .int (I a), .int (I b)] E (refW E ρ th ((n : Int)) tl pa kd nm st hi ke tx wy)) (qW (some (.int (I (st (6 + 5 * z + 1))))) E (refW E ρ th ((n : Int)) tl pa kd nm st hi ke tx wy) (refW E ρ 0 ((recN n : Int)) tl pa kd nm (up (up st (6 + 5 * z + 1) a) (6 + 5 * z + 2) b) (recH st hi n) ke tx wy)) 0 0 (adIn (refW E ρ th ((n : Int)) tl pa kd nm st hi ke tx wy)) := by
  refine mk_met (by decide) rfl (Nat.le_of_ble_eq_true rfl) ?_
  intro p e s m args below meth c hx hb hrt hml hts hown hlocks hnm hP hK ls hl
  have hown : s.vm.findClass RX6 = some m.cls := hown
  have hl : lv_has ls 5 [(0, .ref (ρ 0)), (1, .int (I (z : Int))), (2, .int (I a)), (3, .int (I b))] := hl
  have hD : va_D (adIn (refW E ρ th ((n : Int)) tl pa kd nm st hi ke tx wy)) (refW E ρ th ((n : Int)) tl pa kd nm st hi ke tx wy) := D_of_dR hρ rfl
  have hS : va_S (adIn (refW E ρ th ((n : Int)) tl pa kd nm st hi ke tx wy)) s.heap s.heap [] := va_S.rf
  refine lv_aload_n hx hb dX6_setAges_0 rfl (lv_lk hl rfl) ?_
  refine lv_iload_n hx hb dX6_setAges_1 rfl (lv_lk hl rfl) ?_
  refine call_S (va_runS ⟨hx, hb, hml, hown, hts⟩ (m_X6_isZone l E ((z : Int)) (by omega)) (va_cwS 1 hts (gi_S ml_X6_54 st_X6_isZone it_X6 cd_X6_isZone) rfl rfl rfl (by decide +kernel) ⟨Nat.le_of_ble_eq_true rfl, Nat.le_of_ble_eq_true rfl⟩) (pR_S (hP.sub (ws' := []) [] rfl) hK) rfl rfl hl.1 rfl (lv_room (Nat.le_of_ble_eq_true rfl)) dX6_setAges_2 ⟨Nat.le_of_ble_eq_true rfl, Nat.le_of_ble_eq_true rfl⟩) (fun _ h => h) hS rfl (fun locs hS => ?_)
  refine iv_eq (1) (by rw [if_pos (by omega)]) ?_
  refine iv_if_ne (tgt := 12) hx hb dX6_setAges_5 (by decide) (by omega) (fun c_5 => ?_) (fun c_5 => by exfalso; omega)
  refine lv_iload_n hx hb dX6_setAges_12 rfl (lv_lk hl rfl) ?_
  refine call_S (va_runS ⟨hx, hb, hml, hown, hts⟩ (m_X6_isAge l E a (by omega)) (va_cwS 1 hts (gi_S ml_X6_58 st_X6_isAge it_X6 cd_X6_isAge) rfl rfl rfl (by decide +kernel) ⟨Nat.le_of_ble_eq_true rfl, Nat.le_of_ble_eq_true rfl⟩) (pR_S (hP.sub (ws' := []) [] rfl) hK) rfl rfl hl.1 rfl (lv_room (Nat.le_of_ble_eq_true rfl)) dX6_setAges_13 ⟨Nat.le_of_ble_eq_true rfl, Nat.le_of_ble_eq_true rfl⟩) (fun _ h => h) hS rfl (fun locs hS => ?_)
  refine iv_eq (1) (by rw [if_pos (by omega)]) ?_
  refine iv_if_eq (tgt := 30) hx hb dX6_setAges_16 (by decide) (by omega) (fun c_16 => by exfalso; omega) (fun c_16 => ?_)
  refine lv_iload_n hx hb dX6_setAges_19 rfl (lv_lk hl rfl) ?_
  refine call_S (va_runS ⟨hx, hb, hml, hown, hts⟩ (m_X6_isAge l E b (by omega)) (va_cwS 1 hts (gi_S ml_X6_58 st_X6_isAge it_X6 cd_X6_isAge) rfl rfl rfl (by decide +kernel) ⟨Nat.le_of_ble_eq_true rfl, Nat.le_of_ble_eq_true rfl⟩) (pR_S (hP.sub (ws' := []) [] rfl) hK) rfl rfl hl.1 rfl (lv_room (Nat.le_of_ble_eq_true rfl)) dX6_setAges_20 ⟨Nat.le_of_ble_eq_true rfl, Nat.le_of_ble_eq_true rfl⟩) (fun _ h => h) hS rfl (fun locs hS => ?_)
  refine iv_eq (1) (by rw [if_pos (by omega)]) ?_
  refine iv_if_eq (tgt := 30) hx hb dX6_setAges_23 (by decide) (by omega) (fun c_23 => by exfalso; omega) (fun c_23 => ?_)
  refine iv_iconst hx hb dX6_setAges_26 ?_
  refine lv_goto (tgt := 31) hx hb dX6_setAges_27 (by decide) ?_
  refine va_put (ci := 6) (ty := .int) hx hb hts inX6 tyX6 tyX6_ok nmX6 hown hK.1 hP (dm hD rfl) hS 0 rfl rfl 0 (by decide) (hts _ fl_X6_32) (fun _ h9 => h9) rfl (by decide +kernel) rfl rfl (Nat.le_of_ble_eq_true rfl) dX6_setAges_31 (fun H locs hP _ hS => ?_)
  have hP : va_P E.1 vwCl (refW E ρ 0 ((n : Int)) tl pa kd nm st hi ke tx wy) H := hP
  refine lv_aload_n hx hb dX6_setAges_34 rfl (lv_lk hl rfl) ?_
  refine va_get (D := E.1) (ci := 6) hx hb hts inX6 hown hK.1 hP 0 rfl rfl 0 (by decide) (hts _ fl_X6_32) (fun _ h9 => h9) rfl dX6_setAges_35 ?_
  refine iv_if_le (tgt := 43) hx hb dX6_setAges_38 (by decide) (by omega) (fun c_38 => ?_) (fun c_38 => by exfalso; omega)
  refine lv_aload_n hx hb dX6_setAges_43 rfl (lv_lk hl rfl) ?_
  refine call_F (va_runV ⟨hx, hb, hml, hown, hts⟩ (m_X6_record l E ρ 0 tl pa kd nm st hi ke tx wy hρ n hn) (cwV 0 hts (gi_V ml_X6_47 im_X6_record sl_X6_record it_X6 cd_X6_record) rfl rfl rfl (by decide +kernel) ⟨Nat.le_of_ble_eq_true rfl, Nat.le_of_ble_eq_true rfl⟩) (pR_V (q0 := 0) (ci := 6) hP hK rfl rfl) rfl rfl hl.1 rfl (lv_room (Nat.le_of_ble_eq_true rfl)) dX6_setAges_44 ⟨Nat.le_of_ble_eq_true rfl, Nat.le_of_ble_eq_true rfl⟩) (dm hD rfl) hS rfl (fun H locs hP hS => ?_)
  have hP : va_P E.1 vwCl (refW E ρ 0 ((recN n : Int)) tl pa kd nm st (recH st hi n) ke tx wy) H := hP
  refine lv_aload_n hx hb dX6_setAges_47 rfl (lv_lk hl rfl) ?_
  refine lv_iload_n hx hb dX6_setAges_48 rfl (lv_lk hl rfl) ?_
  refine iv_iconst hx hb dX6_setAges_49 ?_
  refine call_S (va_runV ⟨hx, hb, hml, hown, hts⟩ (m_X6_ofZone l E ρ 0 ((recN n : Int)) tl pa kd nm st (recH st hi n) ke tx wy z 1 hz (by decide)) (cwV 2 hts (gi_V ml_X6_50 im_X6_ofZone sl_X6_ofZone it_X6 cd_X6_ofZone) rfl rfl rfl (by decide +kernel) ⟨Nat.le_of_ble_eq_true rfl, Nat.le_of_ble_eq_true rfl⟩) (pR_V (q0 := 0) (ci := 6) hP hK rfl rfl) rfl rfl hl.1 rfl (lv_room (Nat.le_of_ble_eq_true rfl)) dX6_setAges_50 ⟨Nat.le_of_ble_eq_true rfl, Nat.le_of_ble_eq_true rfl⟩) (fun _ h => h) hS rfl (fun locs hS => ?_)
  refine lv_istore (lv' := [(4, .int (I _)), (0, .ref _), (1, .int (I _)), (2, .int (I _)), (3, .int (I _))]) hx hb dX6_setAges_53 hl (by decide) rfl (fun ls hl => ?_)
  refine lv_aload_n hx hb dX6_setAges_55 rfl (lv_lk hl rfl) ?_
  refine lv_iload_n hx hb dX6_setAges_56 rfl (lv_lk hl rfl) ?_
  refine iv_iconst hx hb dX6_setAges_57 ?_
  refine lv_iload_n hx hb dX6_setAges_58 rfl (lv_lk hl rfl) ?_
  refine call_F (va_runV ⟨hx, hb, hml, hown, hts⟩ (m_X6_putsZone l E ρ 0 ((recN n : Int)) tl pa kd nm st (recH st hi n) ke tx wy hρ z 1 _ hz (by decide)) (cwV 3 hts (gi_V ml_X6_25 im_X6_putsZone sl_X6_putsZone it_X6 cd_X6_putsZone) rfl rfl rfl (by decide +kernel) ⟨Nat.le_of_ble_eq_true rfl, Nat.le_of_ble_eq_true rfl⟩) (pR_V (q0 := 0) (ci := 6) hP hK rfl rfl) rfl rfl hl.1 rfl (lv_room (Nat.le_of_ble_eq_true rfl)) dX6_setAges_59 ⟨Nat.le_of_ble_eq_true rfl, Nat.le_of_ble_eq_true rfl⟩) (dm hD rfl) hS rfl (fun H locs hP hS => ?_)
  have hP : va_P E.1 vwCl (refW E ρ 0 ((recN n : Int)) tl pa kd nm (up st (6 + 5 * z + 1) a) (recH st hi n) ke tx wy) H := hP
  refine lv_aload_n hx hb dX6_setAges_62 rfl (lv_lk hl rfl) ?_
  refine lv_iload_n hx hb dX6_setAges_63 rfl (lv_lk hl rfl) ?_
  refine iv_iconst hx hb dX6_setAges_64 ?_
  refine lv_iload_n hx hb dX6_setAges_65 rfl (lv_lk hl rfl) ?_
  refine call_F (va_runV ⟨hx, hb, hml, hown, hts⟩ (m_X6_putsZone l E ρ 0 ((recN n : Int)) tl pa kd nm (up st (6 + 5 * z + 1) a) (recH st hi n) ke tx wy hρ z 2 _ hz (by decide)) (cwV 3 hts (gi_V ml_X6_25 im_X6_putsZone sl_X6_putsZone it_X6 cd_X6_putsZone) rfl rfl rfl (by decide +kernel) ⟨Nat.le_of_ble_eq_true rfl, Nat.le_of_ble_eq_true rfl⟩) (pR_V (q0 := 0) (ci := 6) hP hK rfl rfl) rfl rfl hl.1 rfl (lv_room (Nat.le_of_ble_eq_true rfl)) dX6_setAges_66 ⟨Nat.le_of_ble_eq_true rfl, Nat.le_of_ble_eq_true rfl⟩) (dm hD rfl) hS rfl (fun H locs hP hS => ?_)
  have hP : va_P E.1 vwCl (refW E ρ 0 ((recN n : Int)) tl pa kd nm (up (up st (6 + 5 * z + 1) a) (6 + 5 * z + 2) b) (recH st hi n) ke tx wy) H := hP
  refine lv_iload hx hb dX6_setAges_69 (lv_lk hl rfl) ?_
  exact W.iret hx hb hrt (fun t ht hW => ⟨rfl, by rw [ht]; exact hP, hS.F ht⟩) hS.2.2 dX6_setAges_71 hlocks
set_option maxHeartbeats 4000000 in
set_option maxRecDepth 100000 in
theorem m_X6_setAges_bad1 (l : Launch) (E : Env3) (ρ : Nat → Nat) (th rc tl pa kd nm : Int) (st hi ke tx wy : S) (hρ : dR ρ 6) (z a b : Int) (hz : -2147483648 ≤ z ∧ z ≤ 2147483647) (ha : -2147483648 ≤ a ∧ a ≤ 2147483647) (hb : -2147483648 ≤ b ∧ b ≤ 2147483647) (h1 : ¬ (0 ≤ z ∧ z ≤ 5)) : Met l yX6_setAges (Cond.code yX6_setAges cX6_setAges 5 (some .int) :: ALL) ({ frames := 2, cells := 0, slots := 0, locals := 45 }) (pR [.ref (ρ 0), .int (I z), .int (I a), .int (I b)] E (refW E ρ th rc tl pa kd nm st hi ke tx wy)) (qW (some (.int (I 0))) E (refW E ρ th rc tl pa kd nm st hi ke tx wy) (refW E ρ 1 rc tl pa kd nm st hi ke tx wy)) 0 0 (adIn (refW E ρ th rc tl pa kd nm st hi ke tx wy)) := by
  refine mk_met (by decide) rfl (Nat.le_of_ble_eq_true rfl) ?_
  intro p e s m args below meth c hx hb hrt hml hts hown hlocks hnm hP hK ls hl
  have hown : s.vm.findClass RX6 = some m.cls := hown
  have hl : lv_has ls 5 [(0, .ref (ρ 0)), (1, .int (I z)), (2, .int (I a)), (3, .int (I b))] := hl
  have hD : va_D (adIn (refW E ρ th rc tl pa kd nm st hi ke tx wy)) (refW E ρ th rc tl pa kd nm st hi ke tx wy) := D_of_dR hρ rfl
  have hS : va_S (adIn (refW E ρ th rc tl pa kd nm st hi ke tx wy)) s.heap s.heap [] := va_S.rf
  refine lv_aload_n hx hb dX6_setAges_0 rfl (lv_lk hl rfl) ?_
  refine lv_iload_n hx hb dX6_setAges_1 rfl (lv_lk hl rfl) ?_
  refine call_S (va_runS ⟨hx, hb, hml, hown, hts⟩ (m_X6_isZone l E z (by omega)) (va_cwS 1 hts (gi_S ml_X6_54 st_X6_isZone it_X6 cd_X6_isZone) rfl rfl rfl (by decide +kernel) ⟨Nat.le_of_ble_eq_true rfl, Nat.le_of_ble_eq_true rfl⟩) (pR_S (hP.sub (ws' := []) [] rfl) hK) rfl rfl hl.1 rfl (lv_room (Nat.le_of_ble_eq_true rfl)) dX6_setAges_2 ⟨Nat.le_of_ble_eq_true rfl, Nat.le_of_ble_eq_true rfl⟩) (fun _ h => h) hS rfl (fun locs hS => ?_)
  refine iv_eq (0) (by rw [if_neg (by omega)]) ?_
  refine iv_if_ne (tgt := 12) hx hb dX6_setAges_5 (by decide) (by omega) (fun c_5 => by exfalso; omega) (fun c_5 => ?_)
  refine iv_iconst hx hb dX6_setAges_8 ?_
  refine lv_goto (tgt := 31) hx hb dX6_setAges_9 (by decide) ?_
  refine va_put (ci := 6) (ty := .int) hx hb hts inX6 tyX6 tyX6_ok nmX6 hown hK.1 hP (dm hD rfl) hS 0 rfl rfl 0 (by decide) (hts _ fl_X6_32) (fun _ h9 => h9) rfl (by decide +kernel) rfl rfl (Nat.le_of_ble_eq_true rfl) dX6_setAges_31 (fun H locs hP _ hS => ?_)
  have hP : va_P E.1 vwCl (refW E ρ 1 rc tl pa kd nm st hi ke tx wy) H := hP
  refine lv_aload_n hx hb dX6_setAges_34 rfl (lv_lk hl rfl) ?_
  refine va_get (D := E.1) (ci := 6) hx hb hts inX6 hown hK.1 hP 0 rfl rfl 0 (by decide) (hts _ fl_X6_32) (fun _ h9 => h9) rfl dX6_setAges_35 ?_
  refine iv_if_le (tgt := 43) hx hb dX6_setAges_38 (by decide) (by omega) (fun c_38 => by exfalso; omega) (fun c_38 => ?_)
  refine iv_iconst hx hb dX6_setAges_41 ?_
  exact W.iret hx hb hrt (fun t ht hW => ⟨rfl, by rw [ht]; exact hP, hS.F ht⟩) hS.2.2 dX6_setAges_42 hlocks
set_option maxHeartbeats 4000000 in
set_option maxRecDepth 100000 in
theorem m_X6_setAges_bad2 (l : Launch) (E : Env3) (ρ : Nat → Nat) (th rc tl pa kd nm : Int) (st hi ke tx wy : S) (hρ : dR ρ 6) (z a b : Int) (hz : -2147483648 ≤ z ∧ z ≤ 2147483647) (ha : -2147483648 ≤ a ∧ a ≤ 2147483647) (hb : -2147483648 ≤ b ∧ b ≤ 2147483647) (h1 : 0 ≤ z ∧ z ≤ 5) (h2 : ¬ (1 ≤ a ∧ a ≤ 99)) : Met l yX6_setAges (Cond.code yX6_setAges cX6_setAges 5 (some .int) :: ALL) ({ frames := 2, cells := 0, slots := 0, locals := 45 }) (pR [.ref (ρ 0), .int (I z), .int (I a), .int (I b)] E (refW E ρ th rc tl pa kd nm st hi ke tx wy)) (qW (some (.int (I 0))) E (refW E ρ th rc tl pa kd nm st hi ke tx wy) (refW E ρ 2 rc tl pa kd nm st hi ke tx wy)) 0 0 (adIn (refW E ρ th rc tl pa kd nm st hi ke tx wy)) := by
  refine mk_met (by decide) rfl (Nat.le_of_ble_eq_true rfl) ?_
  intro p e s m args below meth c hx hb hrt hml hts hown hlocks hnm hP hK ls hl
  have hown : s.vm.findClass RX6 = some m.cls := hown
  have hl : lv_has ls 5 [(0, .ref (ρ 0)), (1, .int (I z)), (2, .int (I a)), (3, .int (I b))] := hl
  have hD : va_D (adIn (refW E ρ th rc tl pa kd nm st hi ke tx wy)) (refW E ρ th rc tl pa kd nm st hi ke tx wy) := D_of_dR hρ rfl
  have hS : va_S (adIn (refW E ρ th rc tl pa kd nm st hi ke tx wy)) s.heap s.heap [] := va_S.rf
  refine lv_aload_n hx hb dX6_setAges_0 rfl (lv_lk hl rfl) ?_
  refine lv_iload_n hx hb dX6_setAges_1 rfl (lv_lk hl rfl) ?_
  refine call_S (va_runS ⟨hx, hb, hml, hown, hts⟩ (m_X6_isZone l E z (by omega)) (va_cwS 1 hts (gi_S ml_X6_54 st_X6_isZone it_X6 cd_X6_isZone) rfl rfl rfl (by decide +kernel) ⟨Nat.le_of_ble_eq_true rfl, Nat.le_of_ble_eq_true rfl⟩) (pR_S (hP.sub (ws' := []) [] rfl) hK) rfl rfl hl.1 rfl (lv_room (Nat.le_of_ble_eq_true rfl)) dX6_setAges_2 ⟨Nat.le_of_ble_eq_true rfl, Nat.le_of_ble_eq_true rfl⟩) (fun _ h => h) hS rfl (fun locs hS => ?_)
  refine iv_eq (1) (by rw [if_pos (by omega)]) ?_
  refine iv_if_ne (tgt := 12) hx hb dX6_setAges_5 (by decide) (by omega) (fun c_5 => ?_) (fun c_5 => by exfalso; omega)
  refine lv_iload_n hx hb dX6_setAges_12 rfl (lv_lk hl rfl) ?_
  refine call_S (va_runS ⟨hx, hb, hml, hown, hts⟩ (m_X6_isAge l E a (by omega)) (va_cwS 1 hts (gi_S ml_X6_58 st_X6_isAge it_X6 cd_X6_isAge) rfl rfl rfl (by decide +kernel) ⟨Nat.le_of_ble_eq_true rfl, Nat.le_of_ble_eq_true rfl⟩) (pR_S (hP.sub (ws' := []) [] rfl) hK) rfl rfl hl.1 rfl (lv_room (Nat.le_of_ble_eq_true rfl)) dX6_setAges_13 ⟨Nat.le_of_ble_eq_true rfl, Nat.le_of_ble_eq_true rfl⟩) (fun _ h => h) hS rfl (fun locs hS => ?_)
  refine iv_eq (0) (by rw [if_neg (by omega)]) ?_
  refine iv_if_eq (tgt := 30) hx hb dX6_setAges_16 (by decide) (by omega) (fun c_16 => ?_) (fun c_16 => by exfalso; omega)
  refine iv_iconst hx hb dX6_setAges_30 ?_
  refine va_put (ci := 6) (ty := .int) hx hb hts inX6 tyX6 tyX6_ok nmX6 hown hK.1 hP (dm hD rfl) hS 0 rfl rfl 0 (by decide) (hts _ fl_X6_32) (fun _ h9 => h9) rfl (by decide +kernel) rfl rfl (Nat.le_of_ble_eq_true rfl) dX6_setAges_31 (fun H locs hP _ hS => ?_)
  have hP : va_P E.1 vwCl (refW E ρ 2 rc tl pa kd nm st hi ke tx wy) H := hP
  refine lv_aload_n hx hb dX6_setAges_34 rfl (lv_lk hl rfl) ?_
  refine va_get (D := E.1) (ci := 6) hx hb hts inX6 hown hK.1 hP 0 rfl rfl 0 (by decide) (hts _ fl_X6_32) (fun _ h9 => h9) rfl dX6_setAges_35 ?_
  refine iv_if_le (tgt := 43) hx hb dX6_setAges_38 (by decide) (by omega) (fun c_38 => by exfalso; omega) (fun c_38 => ?_)
  refine iv_iconst hx hb dX6_setAges_41 ?_
  exact W.iret hx hb hrt (fun t ht hW => ⟨rfl, by rw [ht]; exact hP, hS.F ht⟩) hS.2.2 dX6_setAges_42 hlocks
set_option maxHeartbeats 4000000 in
set_option maxRecDepth 100000 in
theorem m_X6_setAges_bad3 (l : Launch) (E : Env3) (ρ : Nat → Nat) (th rc tl pa kd nm : Int) (st hi ke tx wy : S) (hρ : dR ρ 6) (z a b : Int) (hz : -2147483648 ≤ z ∧ z ≤ 2147483647) (ha : -2147483648 ≤ a ∧ a ≤ 2147483647) (hb : -2147483648 ≤ b ∧ b ≤ 2147483647) (h1 : 0 ≤ z ∧ z ≤ 5) (h2 : 1 ≤ a ∧ a ≤ 99) (h3 : ¬ (1 ≤ b ∧ b ≤ 99)) : Met l yX6_setAges (Cond.code yX6_setAges cX6_setAges 5 (some .int) :: ALL) ({ frames := 2, cells := 0, slots := 0, locals := 45 }) (pR [.ref (ρ 0), .int (I z), .int (I a), .int (I b)] E (refW E ρ th rc tl pa kd nm st hi ke tx wy)) (qW (some (.int (I 0))) E (refW E ρ th rc tl pa kd nm st hi ke tx wy) (refW E ρ 2 rc tl pa kd nm st hi ke tx wy)) 0 0 (adIn (refW E ρ th rc tl pa kd nm st hi ke tx wy)) := by
  refine mk_met (by decide) rfl (Nat.le_of_ble_eq_true rfl) ?_
  intro p e s m args below meth c hx hb hrt hml hts hown hlocks hnm hP hK ls hl
  have hown : s.vm.findClass RX6 = some m.cls := hown
  have hl : lv_has ls 5 [(0, .ref (ρ 0)), (1, .int (I z)), (2, .int (I a)), (3, .int (I b))] := hl
  have hD : va_D (adIn (refW E ρ th rc tl pa kd nm st hi ke tx wy)) (refW E ρ th rc tl pa kd nm st hi ke tx wy) := D_of_dR hρ rfl
  have hS : va_S (adIn (refW E ρ th rc tl pa kd nm st hi ke tx wy)) s.heap s.heap [] := va_S.rf
  refine lv_aload_n hx hb dX6_setAges_0 rfl (lv_lk hl rfl) ?_
  refine lv_iload_n hx hb dX6_setAges_1 rfl (lv_lk hl rfl) ?_
  refine call_S (va_runS ⟨hx, hb, hml, hown, hts⟩ (m_X6_isZone l E z (by omega)) (va_cwS 1 hts (gi_S ml_X6_54 st_X6_isZone it_X6 cd_X6_isZone) rfl rfl rfl (by decide +kernel) ⟨Nat.le_of_ble_eq_true rfl, Nat.le_of_ble_eq_true rfl⟩) (pR_S (hP.sub (ws' := []) [] rfl) hK) rfl rfl hl.1 rfl (lv_room (Nat.le_of_ble_eq_true rfl)) dX6_setAges_2 ⟨Nat.le_of_ble_eq_true rfl, Nat.le_of_ble_eq_true rfl⟩) (fun _ h => h) hS rfl (fun locs hS => ?_)
  refine iv_eq (1) (by rw [if_pos (by omega)]) ?_
  refine iv_if_ne (tgt := 12) hx hb dX6_setAges_5 (by decide) (by omega) (fun c_5 => ?_) (fun c_5 => by exfalso; omega)
  refine lv_iload_n hx hb dX6_setAges_12 rfl (lv_lk hl rfl) ?_
  refine call_S (va_runS ⟨hx, hb, hml, hown, hts⟩ (m_X6_isAge l E a (by omega)) (va_cwS 1 hts (gi_S ml_X6_58 st_X6_isAge it_X6 cd_X6_isAge) rfl rfl rfl (by decide +kernel) ⟨Nat.le_of_ble_eq_true rfl, Nat.le_of_ble_eq_true rfl⟩) (pR_S (hP.sub (ws' := []) [] rfl) hK) rfl rfl hl.1 rfl (lv_room (Nat.le_of_ble_eq_true rfl)) dX6_setAges_13 ⟨Nat.le_of_ble_eq_true rfl, Nat.le_of_ble_eq_true rfl⟩) (fun _ h => h) hS rfl (fun locs hS => ?_)
  refine iv_eq (1) (by rw [if_pos (by omega)]) ?_
  refine iv_if_eq (tgt := 30) hx hb dX6_setAges_16 (by decide) (by omega) (fun c_16 => by exfalso; omega) (fun c_16 => ?_)
  refine lv_iload_n hx hb dX6_setAges_19 rfl (lv_lk hl rfl) ?_
  refine call_S (va_runS ⟨hx, hb, hml, hown, hts⟩ (m_X6_isAge l E b (by omega)) (va_cwS 1 hts (gi_S ml_X6_58 st_X6_isAge it_X6 cd_X6_isAge) rfl rfl rfl (by decide +kernel) ⟨Nat.le_of_ble_eq_true rfl, Nat.le_of_ble_eq_true rfl⟩) (pR_S (hP.sub (ws' := []) [] rfl) hK) rfl rfl hl.1 rfl (lv_room (Nat.le_of_ble_eq_true rfl)) dX6_setAges_20 ⟨Nat.le_of_ble_eq_true rfl, Nat.le_of_ble_eq_true rfl⟩) (fun _ h => h) hS rfl (fun locs hS => ?_)
  refine iv_eq (0) (by rw [if_neg (by omega)]) ?_
  refine iv_if_eq (tgt := 30) hx hb dX6_setAges_23 (by decide) (by omega) (fun c_23 => ?_) (fun c_23 => by exfalso; omega)
  refine iv_iconst hx hb dX6_setAges_30 ?_
  refine va_put (ci := 6) (ty := .int) hx hb hts inX6 tyX6 tyX6_ok nmX6 hown hK.1 hP (dm hD rfl) hS 0 rfl rfl 0 (by decide) (hts _ fl_X6_32) (fun _ h9 => h9) rfl (by decide +kernel) rfl rfl (Nat.le_of_ble_eq_true rfl) dX6_setAges_31 (fun H locs hP _ hS => ?_)
  have hP : va_P E.1 vwCl (refW E ρ 2 rc tl pa kd nm st hi ke tx wy) H := hP
  refine lv_aload_n hx hb dX6_setAges_34 rfl (lv_lk hl rfl) ?_
  refine va_get (D := E.1) (ci := 6) hx hb hts inX6 hown hK.1 hP 0 rfl rfl 0 (by decide) (hts _ fl_X6_32) (fun _ h9 => h9) rfl dX6_setAges_35 ?_
  refine iv_if_le (tgt := 43) hx hb dX6_setAges_38 (by decide) (by omega) (fun c_38 => by exfalso; omega) (fun c_38 => ?_)
  refine iv_iconst hx hb dX6_setAges_41 ?_
  exact W.iret hx hb hrt (fun t ht hW => ⟨rfl, by rw [ht]; exact hP, hS.F ht⟩) hS.2.2 dX6_setAges_42 hlocks
set_option maxHeartbeats 4000000 in
set_option maxRecDepth 100000 in
theorem m_X6_gives (l : Launch) (E : Env3) (ρ : Nat → Nat) (th tl pa kd nm : Int) (st hi ke tx wy : S) (hρ : dR ρ 6) (n : Nat) (hn : n ≤ 6) (r : Nat) (k9 v9 a9 : Int) (hr : r < 36) : Met l yX6_gives (Cond.code yX6_gives cX6_gives 6 (some .int) :: ALL) ({ frames := 2, cells := 0, slots := 0, locals := 45 }) (pR [.ref (ρ 0), .int (I (r : Int)), .int (I k9), .int (I v9), .int (I a9)] E (refW E ρ th ((n : Int)) tl pa kd nm st hi ke tx wy)) (qW (some (.int (I (st (36 + 6 * r))))) E (refW E ρ th ((n : Int)) tl pa kd nm st hi ke tx wy) (refW E ρ th ((recN n : Int)) tl pa kd nm (up (up (up st (36 + 6 * r) k9) (36 + 6 * r + 1) v9) (36 + 6 * r + 2) a9) (recH st hi n) ke tx wy)) 0 0 (adIn (refW E ρ th ((n : Int)) tl pa kd nm st hi ke tx wy)) := by
  refine mk_met (by decide) rfl (Nat.le_of_ble_eq_true rfl) ?_
  intro p e s m args below meth c hx hb hrt hml hts hown hlocks hnm hP hK ls hl
  have hown : s.vm.findClass RX6 = some m.cls := hown
  have hl : lv_has ls 6 [(0, .ref (ρ 0)), (1, .int (I (r : Int))), (2, .int (I k9)), (3, .int (I v9)), (4, .int (I a9))] := hl
  have hD : va_D (adIn (refW E ρ th ((n : Int)) tl pa kd nm st hi ke tx wy)) (refW E ρ th ((n : Int)) tl pa kd nm st hi ke tx wy) := D_of_dR hρ rfl
  have hS : va_S (adIn (refW E ρ th ((n : Int)) tl pa kd nm st hi ke tx wy)) s.heap s.heap [] := va_S.rf
  refine lv_aload_n hx hb dX6_gives_0 rfl (lv_lk hl rfl) ?_
  refine call_F (va_runV ⟨hx, hb, hml, hown, hts⟩ (m_X6_record l E ρ th tl pa kd nm st hi ke tx wy hρ n hn) (cwV 0 hts (gi_V ml_X6_47 im_X6_record sl_X6_record it_X6 cd_X6_record) rfl rfl rfl (by decide +kernel) ⟨Nat.le_of_ble_eq_true rfl, Nat.le_of_ble_eq_true rfl⟩) (pR_V (q0 := 0) (ci := 6) hP hK rfl rfl) rfl rfl hl.1 rfl (lv_room (Nat.le_of_ble_eq_true rfl)) dX6_gives_1 ⟨Nat.le_of_ble_eq_true rfl, Nat.le_of_ble_eq_true rfl⟩) (dm hD rfl) hS rfl (fun H locs hP hS => ?_)
  have hP : va_P E.1 vwCl (refW E ρ th ((recN n : Int)) tl pa kd nm st (recH st hi n) ke tx wy) H := hP
  refine lv_aload_n hx hb dX6_gives_4 rfl (lv_lk hl rfl) ?_
  refine lv_iload_n hx hb dX6_gives_5 rfl (lv_lk hl rfl) ?_
  refine iv_iconst hx hb dX6_gives_6 ?_
  refine call_S (va_runV ⟨hx, hb, hml, hown, hts⟩ (m_X6_of l E ρ th ((recN n : Int)) tl pa kd nm st (recH st hi n) ke tx wy r 0 hr (by decide)) (cwV 2 hts (gi_V ml_X6_61 im_X6_of sl_X6_of it_X6 cd_X6_of) rfl rfl rfl (by decide +kernel) ⟨Nat.le_of_ble_eq_true rfl, Nat.le_of_ble_eq_true rfl⟩) (pR_V (q0 := 0) (ci := 6) hP hK rfl rfl) rfl rfl hl.1 rfl (lv_room (Nat.le_of_ble_eq_true rfl)) dX6_gives_7 ⟨Nat.le_of_ble_eq_true rfl, Nat.le_of_ble_eq_true rfl⟩) (fun _ h => h) hS rfl (fun locs hS => ?_)
  refine lv_istore (lv' := [(5, .int (I _)), (0, .ref _), (1, .int (I _)), (2, .int (I _)), (3, .int (I _)), (4, .int (I _))]) hx hb dX6_gives_10 hl (by decide) rfl (fun ls hl => ?_)
  refine lv_aload_n hx hb dX6_gives_12 rfl (lv_lk hl rfl) ?_
  refine lv_iload_n hx hb dX6_gives_13 rfl (lv_lk hl rfl) ?_
  refine iv_iconst hx hb dX6_gives_14 ?_
  refine lv_iload_n hx hb dX6_gives_15 rfl (lv_lk hl rfl) ?_
  refine call_F (va_runV ⟨hx, hb, hml, hown, hts⟩ (m_X6_puts l E ρ th ((recN n : Int)) tl pa kd nm st (recH st hi n) ke tx wy hρ r 0 _ hr (by decide)) (cwV 3 hts (gi_V ml_X6_29 im_X6_puts sl_X6_puts it_X6 cd_X6_puts) rfl rfl rfl (by decide +kernel) ⟨Nat.le_of_ble_eq_true rfl, Nat.le_of_ble_eq_true rfl⟩) (pR_V (q0 := 0) (ci := 6) hP hK rfl rfl) rfl rfl hl.1 rfl (lv_room (Nat.le_of_ble_eq_true rfl)) dX6_gives_16 ⟨Nat.le_of_ble_eq_true rfl, Nat.le_of_ble_eq_true rfl⟩) (dm hD rfl) hS rfl (fun H locs hP hS => ?_)
  have hP : va_P E.1 vwCl (refW E ρ th ((recN n : Int)) tl pa kd nm (up st (36 + 6 * r) k9) (recH st hi n) ke tx wy) H := hP
  refine lv_aload_n hx hb dX6_gives_19 rfl (lv_lk hl rfl) ?_
  refine lv_iload_n hx hb dX6_gives_20 rfl (lv_lk hl rfl) ?_
  refine iv_iconst hx hb dX6_gives_21 ?_
  refine lv_iload_n hx hb dX6_gives_22 rfl (lv_lk hl rfl) ?_
  refine call_F (va_runV ⟨hx, hb, hml, hown, hts⟩ (m_X6_puts l E ρ th ((recN n : Int)) tl pa kd nm (up st (36 + 6 * r) k9) (recH st hi n) ke tx wy hρ r 1 _ hr (by decide)) (cwV 3 hts (gi_V ml_X6_29 im_X6_puts sl_X6_puts it_X6 cd_X6_puts) rfl rfl rfl (by decide +kernel) ⟨Nat.le_of_ble_eq_true rfl, Nat.le_of_ble_eq_true rfl⟩) (pR_V (q0 := 0) (ci := 6) hP hK rfl rfl) rfl rfl hl.1 rfl (lv_room (Nat.le_of_ble_eq_true rfl)) dX6_gives_23 ⟨Nat.le_of_ble_eq_true rfl, Nat.le_of_ble_eq_true rfl⟩) (dm hD rfl) hS rfl (fun H locs hP hS => ?_)
  have hP : va_P E.1 vwCl (refW E ρ th ((recN n : Int)) tl pa kd nm (up (up st (36 + 6 * r) k9) (36 + 6 * r + 1) v9) (recH st hi n) ke tx wy) H := hP
  refine lv_aload_n hx hb dX6_gives_26 rfl (lv_lk hl rfl) ?_
  refine lv_iload_n hx hb dX6_gives_27 rfl (lv_lk hl rfl) ?_
  refine iv_iconst hx hb dX6_gives_28 ?_
  refine lv_iload hx hb dX6_gives_29 (lv_lk hl rfl) ?_
  refine call_F (va_runV ⟨hx, hb, hml, hown, hts⟩ (m_X6_puts l E ρ th ((recN n : Int)) tl pa kd nm (up (up st (36 + 6 * r) k9) (36 + 6 * r + 1) v9) (recH st hi n) ke tx wy hρ r 2 _ hr (by decide)) (cwV 3 hts (gi_V ml_X6_29 im_X6_puts sl_X6_puts it_X6 cd_X6_puts) rfl rfl rfl (by decide +kernel) ⟨Nat.le_of_ble_eq_true rfl, Nat.le_of_ble_eq_true rfl⟩) (pR_V (q0 := 0) (ci := 6) hP hK rfl rfl) rfl rfl hl.1 rfl (lv_room (Nat.le_of_ble_eq_true rfl)) dX6_gives_31 ⟨Nat.le_of_ble_eq_true rfl, Nat.le_of_ble_eq_true rfl⟩) (dm hD rfl) hS rfl (fun H locs hP hS => ?_)
  have hP : va_P E.1 vwCl (refW E ρ th ((recN n : Int)) tl pa kd nm (up (up (up st (36 + 6 * r) k9) (36 + 6 * r + 1) v9) (36 + 6 * r + 2) a9) (recH st hi n) ke tx wy) H := hP
  refine lv_iload hx hb dX6_gives_34 (lv_lk hl rfl) ?_
  exact W.iret hx hb hrt (fun t ht hW => ⟨rfl, by rw [ht]; exact hP, hS.F ht⟩) hS.2.2 dX6_gives_36 hlocks
set_option maxHeartbeats 4000000 in
set_option maxRecDepth 100000 in
theorem m_X6_setAnswer_ok (l : Launch) (E : Env3) (ρ : Nat → Nat) (th tl pa kd nm : Int) (st hi ke tx wy : S) (hρ : dR ρ 6) (n : Nat) (hn : n ≤ 6) (r : Nat) (v a : Int) (hr : r < 36) (hv : 0 ≤ v ∧ v ≤ 99) (ha : 1 ≤ a ∧ a ≤ 99) : Met l yX6_setAnswer (Cond.code yX6_setAnswer cX6_setAnswer 4 (some .int) :: ALL) ({ frames := 3, cells := 0, slots := 0, locals := 70 }) (pR [.ref (ρ 0), .int (I (r : Int)), .int (I v), .int (I a)] E (refW E ρ th ((n : Int)) tl pa kd nm st hi ke tx wy)) (qW (some (.int (I (st (36 + 6 * r))))) E (refW E ρ th ((n : Int)) tl pa kd nm st hi ke tx wy) (refW E ρ 0 ((recN n : Int)) tl pa kd nm (up (up (up st (36 + 6 * r) 1) (36 + 6 * r + 1) v) (36 + 6 * r + 2) a) (recH st hi n) ke tx wy)) 0 0 (adIn (refW E ρ th ((n : Int)) tl pa kd nm st hi ke tx wy)) := by
  refine mk_met (by decide) rfl (Nat.le_of_ble_eq_true rfl) ?_
  intro p e s m args below meth c hx hb hrt hml hts hown hlocks hnm hP hK ls hl
  have hown : s.vm.findClass RX6 = some m.cls := hown
  have hl : lv_has ls 4 [(0, .ref (ρ 0)), (1, .int (I (r : Int))), (2, .int (I v)), (3, .int (I a))] := hl
  have hD : va_D (adIn (refW E ρ th ((n : Int)) tl pa kd nm st hi ke tx wy)) (refW E ρ th ((n : Int)) tl pa kd nm st hi ke tx wy) := D_of_dR hρ rfl
  have hS : va_S (adIn (refW E ρ th ((n : Int)) tl pa kd nm st hi ke tx wy)) s.heap s.heap [] := va_S.rf
  refine lv_aload_n hx hb dX6_setAnswer_0 rfl (lv_lk hl rfl) ?_
  refine lv_iload_n hx hb dX6_setAnswer_1 rfl (lv_lk hl rfl) ?_
  refine call_S (va_runS ⟨hx, hb, hml, hown, hts⟩ (m_X6_isRiddle l E ((r : Int)) (by omega)) (va_cwS 1 hts (gi_S ml_X6_64 st_X6_isRiddle it_X6 cd_X6_isRiddle) rfl rfl rfl (by decide +kernel) ⟨Nat.le_of_ble_eq_true rfl, Nat.le_of_ble_eq_true rfl⟩) (pR_S (hP.sub (ws' := []) [] rfl) hK) rfl rfl hl.1 rfl (lv_room (Nat.le_of_ble_eq_true rfl)) dX6_setAnswer_2 ⟨Nat.le_of_ble_eq_true rfl, Nat.le_of_ble_eq_true rfl⟩) (fun _ h => h) hS rfl (fun locs hS => ?_)
  refine iv_eq (1) (by rw [if_pos (by omega)]) ?_
  refine iv_if_ne (tgt := 12) hx hb dX6_setAnswer_5 (by decide) (by omega) (fun c_5 => ?_) (fun c_5 => by exfalso; omega)
  refine lv_iload_n hx hb dX6_setAnswer_12 rfl (lv_lk hl rfl) ?_
  refine iv_iconst hx hb dX6_setAnswer_13 ?_
  refine iv_bipush hx hb dX6_setAnswer_14 (by decide +kernel) ?_
  refine call_S (va_runS ⟨hx, hb, hml, hown, hts⟩ (m_X6_within l E v 0 99 (by omega) (by omega) (by omega)) (va_cwS 3 hts (gi_S ml_X6_43 st_X6_within it_X6 cd_X6_within) rfl rfl rfl (by decide +kernel) ⟨Nat.le_of_ble_eq_true rfl, Nat.le_of_ble_eq_true rfl⟩) (pR_S (hP.sub (ws' := []) [] rfl) hK) rfl rfl hl.1 rfl (lv_room (Nat.le_of_ble_eq_true rfl)) dX6_setAnswer_16 ⟨Nat.le_of_ble_eq_true rfl, Nat.le_of_ble_eq_true rfl⟩) (fun _ h => h) hS rfl (fun locs hS => ?_)
  refine iv_eq (1) (by rw [if_pos (by omega)]) ?_
  refine iv_if_eq (tgt := 33) hx hb dX6_setAnswer_19 (by decide) (by omega) (fun c_19 => by exfalso; omega) (fun c_19 => ?_)
  refine lv_iload_n hx hb dX6_setAnswer_22 rfl (lv_lk hl rfl) ?_
  refine call_S (va_runS ⟨hx, hb, hml, hown, hts⟩ (m_X6_isAge l E a (by omega)) (va_cwS 1 hts (gi_S ml_X6_58 st_X6_isAge it_X6 cd_X6_isAge) rfl rfl rfl (by decide +kernel) ⟨Nat.le_of_ble_eq_true rfl, Nat.le_of_ble_eq_true rfl⟩) (pR_S (hP.sub (ws' := []) [] rfl) hK) rfl rfl hl.1 rfl (lv_room (Nat.le_of_ble_eq_true rfl)) dX6_setAnswer_23 ⟨Nat.le_of_ble_eq_true rfl, Nat.le_of_ble_eq_true rfl⟩) (fun _ h => h) hS rfl (fun locs hS => ?_)
  refine iv_eq (1) (by rw [if_pos (by omega)]) ?_
  refine iv_if_eq (tgt := 33) hx hb dX6_setAnswer_26 (by decide) (by omega) (fun c_26 => by exfalso; omega) (fun c_26 => ?_)
  refine iv_iconst hx hb dX6_setAnswer_29 ?_
  refine lv_goto (tgt := 34) hx hb dX6_setAnswer_30 (by decide) ?_
  refine va_put (ci := 6) (ty := .int) hx hb hts inX6 tyX6 tyX6_ok nmX6 hown hK.1 hP (dm hD rfl) hS 0 rfl rfl 0 (by decide) (hts _ fl_X6_32) (fun _ h9 => h9) rfl (by decide +kernel) rfl rfl (Nat.le_of_ble_eq_true rfl) dX6_setAnswer_34 (fun H locs hP _ hS => ?_)
  have hP : va_P E.1 vwCl (refW E ρ 0 ((n : Int)) tl pa kd nm st hi ke tx wy) H := hP
  refine lv_aload_n hx hb dX6_setAnswer_37 rfl (lv_lk hl rfl) ?_
  refine va_get (D := E.1) (ci := 6) hx hb hts inX6 hown hK.1 hP 0 rfl rfl 0 (by decide) (hts _ fl_X6_32) (fun _ h9 => h9) rfl dX6_setAnswer_38 ?_
  refine iv_if_le (tgt := 48) hx hb dX6_setAnswer_41 (by decide) (by omega) (fun c_41 => ?_) (fun c_41 => by exfalso; omega)
  refine lv_aload_n hx hb dX6_setAnswer_48 rfl (lv_lk hl rfl) ?_
  refine lv_iload_n hx hb dX6_setAnswer_49 rfl (lv_lk hl rfl) ?_
  refine iv_iconst hx hb dX6_setAnswer_50 ?_
  refine lv_iload_n hx hb dX6_setAnswer_51 rfl (lv_lk hl rfl) ?_
  refine lv_iload_n hx hb dX6_setAnswer_52 rfl (lv_lk hl rfl) ?_
  refine call_F (va_runV ⟨hx, hb, hml, hown, hts⟩ (m_X6_gives l E ρ 0 tl pa kd nm st hi ke tx wy hρ n hn r 1 v a hr) (cwV 4 hts (gi_V ml_X6_67 im_X6_gives sl_X6_gives it_X6 cd_X6_gives) rfl rfl rfl (by decide +kernel) ⟨Nat.le_of_ble_eq_true rfl, Nat.le_of_ble_eq_true rfl⟩) (pR_V (q0 := 0) (ci := 6) hP hK rfl rfl) rfl rfl hl.1 rfl (lv_room (Nat.le_of_ble_eq_true rfl)) dX6_setAnswer_53 ⟨Nat.le_of_ble_eq_true rfl, Nat.le_of_ble_eq_true rfl⟩) (dm hD rfl) hS rfl (fun H locs hP hS => ?_)
  have hP : va_P E.1 vwCl (refW E ρ 0 ((recN n : Int)) tl pa kd nm (up (up (up st (36 + 6 * r) 1) (36 + 6 * r + 1) v) (36 + 6 * r + 2) a) (recH st hi n) ke tx wy) H := hP
  exact W.iret hx hb hrt (fun t ht hW => ⟨rfl, by rw [ht]; exact hP, hS.F ht⟩) hS.2.2 dX6_setAnswer_56 hlocks
set_option maxHeartbeats 4000000 in
set_option maxRecDepth 100000 in
theorem m_X6_setAnswer_bad1 (l : Launch) (E : Env3) (ρ : Nat → Nat) (th rc tl pa kd nm : Int) (st hi ke tx wy : S) (hρ : dR ρ 6) (r v a : Int) (hr : -2147483648 ≤ r ∧ r ≤ 2147483647) (hv : -2147483648 ≤ v ∧ v ≤ 2147483647) (ha : -2147483648 ≤ a ∧ a ≤ 2147483647) (h1 : ¬ (0 ≤ r ∧ r ≤ 35)) : Met l yX6_setAnswer (Cond.code yX6_setAnswer cX6_setAnswer 4 (some .int) :: ALL) ({ frames := 3, cells := 0, slots := 0, locals := 70 }) (pR [.ref (ρ 0), .int (I r), .int (I v), .int (I a)] E (refW E ρ th rc tl pa kd nm st hi ke tx wy)) (qW (some (.int (I 0))) E (refW E ρ th rc tl pa kd nm st hi ke tx wy) (refW E ρ 1 rc tl pa kd nm st hi ke tx wy)) 0 0 (adIn (refW E ρ th rc tl pa kd nm st hi ke tx wy)) := by
  refine mk_met (by decide) rfl (Nat.le_of_ble_eq_true rfl) ?_
  intro p e s m args below meth c hx hb hrt hml hts hown hlocks hnm hP hK ls hl
  have hown : s.vm.findClass RX6 = some m.cls := hown
  have hl : lv_has ls 4 [(0, .ref (ρ 0)), (1, .int (I r)), (2, .int (I v)), (3, .int (I a))] := hl
  have hD : va_D (adIn (refW E ρ th rc tl pa kd nm st hi ke tx wy)) (refW E ρ th rc tl pa kd nm st hi ke tx wy) := D_of_dR hρ rfl
  have hS : va_S (adIn (refW E ρ th rc tl pa kd nm st hi ke tx wy)) s.heap s.heap [] := va_S.rf
  refine lv_aload_n hx hb dX6_setAnswer_0 rfl (lv_lk hl rfl) ?_
  refine lv_iload_n hx hb dX6_setAnswer_1 rfl (lv_lk hl rfl) ?_
  refine call_S (va_runS ⟨hx, hb, hml, hown, hts⟩ (m_X6_isRiddle l E r (by omega)) (va_cwS 1 hts (gi_S ml_X6_64 st_X6_isRiddle it_X6 cd_X6_isRiddle) rfl rfl rfl (by decide +kernel) ⟨Nat.le_of_ble_eq_true rfl, Nat.le_of_ble_eq_true rfl⟩) (pR_S (hP.sub (ws' := []) [] rfl) hK) rfl rfl hl.1 rfl (lv_room (Nat.le_of_ble_eq_true rfl)) dX6_setAnswer_2 ⟨Nat.le_of_ble_eq_true rfl, Nat.le_of_ble_eq_true rfl⟩) (fun _ h => h) hS rfl (fun locs hS => ?_)
  refine iv_eq (0) (by rw [if_neg (by omega)]) ?_
  refine iv_if_ne (tgt := 12) hx hb dX6_setAnswer_5 (by decide) (by omega) (fun c_5 => by exfalso; omega) (fun c_5 => ?_)
  refine iv_iconst hx hb dX6_setAnswer_8 ?_
  refine lv_goto (tgt := 34) hx hb dX6_setAnswer_9 (by decide) ?_
  refine va_put (ci := 6) (ty := .int) hx hb hts inX6 tyX6 tyX6_ok nmX6 hown hK.1 hP (dm hD rfl) hS 0 rfl rfl 0 (by decide) (hts _ fl_X6_32) (fun _ h9 => h9) rfl (by decide +kernel) rfl rfl (Nat.le_of_ble_eq_true rfl) dX6_setAnswer_34 (fun H locs hP _ hS => ?_)
  have hP : va_P E.1 vwCl (refW E ρ 1 rc tl pa kd nm st hi ke tx wy) H := hP
  refine lv_aload_n hx hb dX6_setAnswer_37 rfl (lv_lk hl rfl) ?_
  refine va_get (D := E.1) (ci := 6) hx hb hts inX6 hown hK.1 hP 0 rfl rfl 0 (by decide) (hts _ fl_X6_32) (fun _ h9 => h9) rfl dX6_setAnswer_38 ?_
  refine iv_if_le (tgt := 48) hx hb dX6_setAnswer_41 (by decide) (by omega) (fun c_41 => by exfalso; omega) (fun c_41 => ?_)
  refine iv_iconst hx hb dX6_setAnswer_44 ?_
  refine lv_goto (tgt := 56) hx hb dX6_setAnswer_45 (by decide) ?_
  exact W.iret hx hb hrt (fun t ht hW => ⟨rfl, by rw [ht]; exact hP, hS.F ht⟩) hS.2.2 dX6_setAnswer_56 hlocks
set_option maxHeartbeats 4000000 in
set_option maxRecDepth 100000 in
theorem m_X6_setAnswer_bad2 (l : Launch) (E : Env3) (ρ : Nat → Nat) (th rc tl pa kd nm : Int) (st hi ke tx wy : S) (hρ : dR ρ 6) (r v a : Int) (hr : -2147483648 ≤ r ∧ r ≤ 2147483647) (hv : -2147483648 ≤ v ∧ v ≤ 2147483647) (ha : -2147483648 ≤ a ∧ a ≤ 2147483647) (h1 : 0 ≤ r ∧ r ≤ 35) (h2 : ¬ (0 ≤ v ∧ v ≤ 99)) : Met l yX6_setAnswer (Cond.code yX6_setAnswer cX6_setAnswer 4 (some .int) :: ALL) ({ frames := 3, cells := 0, slots := 0, locals := 70 }) (pR [.ref (ρ 0), .int (I r), .int (I v), .int (I a)] E (refW E ρ th rc tl pa kd nm st hi ke tx wy)) (qW (some (.int (I 0))) E (refW E ρ th rc tl pa kd nm st hi ke tx wy) (refW E ρ 2 rc tl pa kd nm st hi ke tx wy)) 0 0 (adIn (refW E ρ th rc tl pa kd nm st hi ke tx wy)) := by
  refine mk_met (by decide) rfl (Nat.le_of_ble_eq_true rfl) ?_
  intro p e s m args below meth c hx hb hrt hml hts hown hlocks hnm hP hK ls hl
  have hown : s.vm.findClass RX6 = some m.cls := hown
  have hl : lv_has ls 4 [(0, .ref (ρ 0)), (1, .int (I r)), (2, .int (I v)), (3, .int (I a))] := hl
  have hD : va_D (adIn (refW E ρ th rc tl pa kd nm st hi ke tx wy)) (refW E ρ th rc tl pa kd nm st hi ke tx wy) := D_of_dR hρ rfl
  have hS : va_S (adIn (refW E ρ th rc tl pa kd nm st hi ke tx wy)) s.heap s.heap [] := va_S.rf
  refine lv_aload_n hx hb dX6_setAnswer_0 rfl (lv_lk hl rfl) ?_
  refine lv_iload_n hx hb dX6_setAnswer_1 rfl (lv_lk hl rfl) ?_
  refine call_S (va_runS ⟨hx, hb, hml, hown, hts⟩ (m_X6_isRiddle l E r (by omega)) (va_cwS 1 hts (gi_S ml_X6_64 st_X6_isRiddle it_X6 cd_X6_isRiddle) rfl rfl rfl (by decide +kernel) ⟨Nat.le_of_ble_eq_true rfl, Nat.le_of_ble_eq_true rfl⟩) (pR_S (hP.sub (ws' := []) [] rfl) hK) rfl rfl hl.1 rfl (lv_room (Nat.le_of_ble_eq_true rfl)) dX6_setAnswer_2 ⟨Nat.le_of_ble_eq_true rfl, Nat.le_of_ble_eq_true rfl⟩) (fun _ h => h) hS rfl (fun locs hS => ?_)
  refine iv_eq (1) (by rw [if_pos (by omega)]) ?_
  refine iv_if_ne (tgt := 12) hx hb dX6_setAnswer_5 (by decide) (by omega) (fun c_5 => ?_) (fun c_5 => by exfalso; omega)
  refine lv_iload_n hx hb dX6_setAnswer_12 rfl (lv_lk hl rfl) ?_
  refine iv_iconst hx hb dX6_setAnswer_13 ?_
  refine iv_bipush hx hb dX6_setAnswer_14 (by decide +kernel) ?_
  refine call_S (va_runS ⟨hx, hb, hml, hown, hts⟩ (m_X6_within l E v 0 99 (by omega) (by omega) (by omega)) (va_cwS 3 hts (gi_S ml_X6_43 st_X6_within it_X6 cd_X6_within) rfl rfl rfl (by decide +kernel) ⟨Nat.le_of_ble_eq_true rfl, Nat.le_of_ble_eq_true rfl⟩) (pR_S (hP.sub (ws' := []) [] rfl) hK) rfl rfl hl.1 rfl (lv_room (Nat.le_of_ble_eq_true rfl)) dX6_setAnswer_16 ⟨Nat.le_of_ble_eq_true rfl, Nat.le_of_ble_eq_true rfl⟩) (fun _ h => h) hS rfl (fun locs hS => ?_)
  refine iv_eq (0) (by rw [if_neg (by omega)]) ?_
  refine iv_if_eq (tgt := 33) hx hb dX6_setAnswer_19 (by decide) (by omega) (fun c_19 => ?_) (fun c_19 => by exfalso; omega)
  refine iv_iconst hx hb dX6_setAnswer_33 ?_
  refine va_put (ci := 6) (ty := .int) hx hb hts inX6 tyX6 tyX6_ok nmX6 hown hK.1 hP (dm hD rfl) hS 0 rfl rfl 0 (by decide) (hts _ fl_X6_32) (fun _ h9 => h9) rfl (by decide +kernel) rfl rfl (Nat.le_of_ble_eq_true rfl) dX6_setAnswer_34 (fun H locs hP _ hS => ?_)
  have hP : va_P E.1 vwCl (refW E ρ 2 rc tl pa kd nm st hi ke tx wy) H := hP
  refine lv_aload_n hx hb dX6_setAnswer_37 rfl (lv_lk hl rfl) ?_
  refine va_get (D := E.1) (ci := 6) hx hb hts inX6 hown hK.1 hP 0 rfl rfl 0 (by decide) (hts _ fl_X6_32) (fun _ h9 => h9) rfl dX6_setAnswer_38 ?_
  refine iv_if_le (tgt := 48) hx hb dX6_setAnswer_41 (by decide) (by omega) (fun c_41 => by exfalso; omega) (fun c_41 => ?_)
  refine iv_iconst hx hb dX6_setAnswer_44 ?_
  refine lv_goto (tgt := 56) hx hb dX6_setAnswer_45 (by decide) ?_
  exact W.iret hx hb hrt (fun t ht hW => ⟨rfl, by rw [ht]; exact hP, hS.F ht⟩) hS.2.2 dX6_setAnswer_56 hlocks
set_option maxHeartbeats 4000000 in
set_option maxRecDepth 100000 in
theorem m_X6_setAnswer_bad3 (l : Launch) (E : Env3) (ρ : Nat → Nat) (th rc tl pa kd nm : Int) (st hi ke tx wy : S) (hρ : dR ρ 6) (r v a : Int) (hr : -2147483648 ≤ r ∧ r ≤ 2147483647) (hv : -2147483648 ≤ v ∧ v ≤ 2147483647) (ha : -2147483648 ≤ a ∧ a ≤ 2147483647) (h1 : 0 ≤ r ∧ r ≤ 35) (h2 : 0 ≤ v ∧ v ≤ 99) (h3 : ¬ (1 ≤ a ∧ a ≤ 99)) : Met l yX6_setAnswer (Cond.code yX6_setAnswer cX6_setAnswer 4 (some .int) :: ALL) ({ frames := 3, cells := 0, slots := 0, locals := 70 }) (pR [.ref (ρ 0), .int (I r), .int (I v), .int (I a)] E (refW E ρ th rc tl pa kd nm st hi ke tx wy)) (qW (some (.int (I 0))) E (refW E ρ th rc tl pa kd nm st hi ke tx wy) (refW E ρ 2 rc tl pa kd nm st hi ke tx wy)) 0 0 (adIn (refW E ρ th rc tl pa kd nm st hi ke tx wy)) := by
  refine mk_met (by decide) rfl (Nat.le_of_ble_eq_true rfl) ?_
  intro p e s m args below meth c hx hb hrt hml hts hown hlocks hnm hP hK ls hl
  have hown : s.vm.findClass RX6 = some m.cls := hown
  have hl : lv_has ls 4 [(0, .ref (ρ 0)), (1, .int (I r)), (2, .int (I v)), (3, .int (I a))] := hl
  have hD : va_D (adIn (refW E ρ th rc tl pa kd nm st hi ke tx wy)) (refW E ρ th rc tl pa kd nm st hi ke tx wy) := D_of_dR hρ rfl
  have hS : va_S (adIn (refW E ρ th rc tl pa kd nm st hi ke tx wy)) s.heap s.heap [] := va_S.rf
  refine lv_aload_n hx hb dX6_setAnswer_0 rfl (lv_lk hl rfl) ?_
  refine lv_iload_n hx hb dX6_setAnswer_1 rfl (lv_lk hl rfl) ?_
  refine call_S (va_runS ⟨hx, hb, hml, hown, hts⟩ (m_X6_isRiddle l E r (by omega)) (va_cwS 1 hts (gi_S ml_X6_64 st_X6_isRiddle it_X6 cd_X6_isRiddle) rfl rfl rfl (by decide +kernel) ⟨Nat.le_of_ble_eq_true rfl, Nat.le_of_ble_eq_true rfl⟩) (pR_S (hP.sub (ws' := []) [] rfl) hK) rfl rfl hl.1 rfl (lv_room (Nat.le_of_ble_eq_true rfl)) dX6_setAnswer_2 ⟨Nat.le_of_ble_eq_true rfl, Nat.le_of_ble_eq_true rfl⟩) (fun _ h => h) hS rfl (fun locs hS => ?_)
  refine iv_eq (1) (by rw [if_pos (by omega)]) ?_
  refine iv_if_ne (tgt := 12) hx hb dX6_setAnswer_5 (by decide) (by omega) (fun c_5 => ?_) (fun c_5 => by exfalso; omega)
  refine lv_iload_n hx hb dX6_setAnswer_12 rfl (lv_lk hl rfl) ?_
  refine iv_iconst hx hb dX6_setAnswer_13 ?_
  refine iv_bipush hx hb dX6_setAnswer_14 (by decide +kernel) ?_
  refine call_S (va_runS ⟨hx, hb, hml, hown, hts⟩ (m_X6_within l E v 0 99 (by omega) (by omega) (by omega)) (va_cwS 3 hts (gi_S ml_X6_43 st_X6_within it_X6 cd_X6_within) rfl rfl rfl (by decide +kernel) ⟨Nat.le_of_ble_eq_true rfl, Nat.le_of_ble_eq_true rfl⟩) (pR_S (hP.sub (ws' := []) [] rfl) hK) rfl rfl hl.1 rfl (lv_room (Nat.le_of_ble_eq_true rfl)) dX6_setAnswer_16 ⟨Nat.le_of_ble_eq_true rfl, Nat.le_of_ble_eq_true rfl⟩) (fun _ h => h) hS rfl (fun locs hS => ?_)
  refine iv_eq (1) (by rw [if_pos (by omega)]) ?_
  refine iv_if_eq (tgt := 33) hx hb dX6_setAnswer_19 (by decide) (by omega) (fun c_19 => by exfalso; omega) (fun c_19 => ?_)
  refine lv_iload_n hx hb dX6_setAnswer_22 rfl (lv_lk hl rfl) ?_
  refine call_S (va_runS ⟨hx, hb, hml, hown, hts⟩ (m_X6_isAge l E a (by omega)) (va_cwS 1 hts (gi_S ml_X6_58 st_X6_isAge it_X6 cd_X6_isAge) rfl rfl rfl (by decide +kernel) ⟨Nat.le_of_ble_eq_true rfl, Nat.le_of_ble_eq_true rfl⟩) (pR_S (hP.sub (ws' := []) [] rfl) hK) rfl rfl hl.1 rfl (lv_room (Nat.le_of_ble_eq_true rfl)) dX6_setAnswer_23 ⟨Nat.le_of_ble_eq_true rfl, Nat.le_of_ble_eq_true rfl⟩) (fun _ h => h) hS rfl (fun locs hS => ?_)
  refine iv_eq (0) (by rw [if_neg (by omega)]) ?_
  refine iv_if_eq (tgt := 33) hx hb dX6_setAnswer_26 (by decide) (by omega) (fun c_26 => ?_) (fun c_26 => by exfalso; omega)
  refine iv_iconst hx hb dX6_setAnswer_33 ?_
  refine va_put (ci := 6) (ty := .int) hx hb hts inX6 tyX6 tyX6_ok nmX6 hown hK.1 hP (dm hD rfl) hS 0 rfl rfl 0 (by decide) (hts _ fl_X6_32) (fun _ h9 => h9) rfl (by decide +kernel) rfl rfl (Nat.le_of_ble_eq_true rfl) dX6_setAnswer_34 (fun H locs hP _ hS => ?_)
  have hP : va_P E.1 vwCl (refW E ρ 2 rc tl pa kd nm st hi ke tx wy) H := hP
  refine lv_aload_n hx hb dX6_setAnswer_37 rfl (lv_lk hl rfl) ?_
  refine va_get (D := E.1) (ci := 6) hx hb hts inX6 hown hK.1 hP 0 rfl rfl 0 (by decide) (hts _ fl_X6_32) (fun _ h9 => h9) rfl dX6_setAnswer_38 ?_
  refine iv_if_le (tgt := 48) hx hb dX6_setAnswer_41 (by decide) (by omega) (fun c_41 => by exfalso; omega) (fun c_41 => ?_)
  refine iv_iconst hx hb dX6_setAnswer_44 ?_
  refine lv_goto (tgt := 56) hx hb dX6_setAnswer_45 (by decide) ?_
  exact W.iret hx hb hrt (fun t ht hW => ⟨rfl, by rw [ht]; exact hP, hS.F ht⟩) hS.2.2 dX6_setAnswer_56 hlocks
set_option maxHeartbeats 4000000 in
set_option maxRecDepth 100000 in
theorem m_X6_setReference_ok (l : Launch) (E : Env3) (ρ : Nat → Nat) (th tl pa kd nm : Int) (st hi ke tx wy : S) (hρ : dR ρ 6) (n : Nat) (hn : n ≤ 6) (r q : Nat) (a : Int) (hr : r < 36) (hq : q < 36) (hne : r ≠ q) (ha : 1 ≤ a ∧ a ≤ 99) : Met l yX6_setReference (Cond.code yX6_setReference cX6_setReference 4 (some .int) :: ALL) ({ frames := 3, cells := 0, slots := 0, locals := 70 }) (pR [.ref (ρ 0), .int (I (r : Int)), .int (I (q : Int)), .int (I a)] E (refW E ρ th ((n : Int)) tl pa kd nm st hi ke tx wy)) (qW (some (.int (I (st (36 + 6 * r))))) E (refW E ρ th ((n : Int)) tl pa kd nm st hi ke tx wy) (refW E ρ 0 ((recN n : Int)) tl pa kd nm (up (up (up st (36 + 6 * r) 2) (36 + 6 * r + 1) ((q : Int))) (36 + 6 * r + 2) a) (recH st hi n) ke tx wy)) 0 0 (adIn (refW E ρ th ((n : Int)) tl pa kd nm st hi ke tx wy)) := by
  refine mk_met (by decide) rfl (Nat.le_of_ble_eq_true rfl) ?_
  intro p e s m args below meth c hx hb hrt hml hts hown hlocks hnm hP hK ls hl
  have hown : s.vm.findClass RX6 = some m.cls := hown
  have hl : lv_has ls 4 [(0, .ref (ρ 0)), (1, .int (I (r : Int))), (2, .int (I (q : Int))), (3, .int (I a))] := hl
  have hD : va_D (adIn (refW E ρ th ((n : Int)) tl pa kd nm st hi ke tx wy)) (refW E ρ th ((n : Int)) tl pa kd nm st hi ke tx wy) := D_of_dR hρ rfl
  have hS : va_S (adIn (refW E ρ th ((n : Int)) tl pa kd nm st hi ke tx wy)) s.heap s.heap [] := va_S.rf
  refine lv_aload_n hx hb dX6_setReference_0 rfl (lv_lk hl rfl) ?_
  refine lv_iload_n hx hb dX6_setReference_1 rfl (lv_lk hl rfl) ?_
  refine call_S (va_runS ⟨hx, hb, hml, hown, hts⟩ (m_X6_isRiddle l E ((r : Int)) (by omega)) (va_cwS 1 hts (gi_S ml_X6_64 st_X6_isRiddle it_X6 cd_X6_isRiddle) rfl rfl rfl (by decide +kernel) ⟨Nat.le_of_ble_eq_true rfl, Nat.le_of_ble_eq_true rfl⟩) (pR_S (hP.sub (ws' := []) [] rfl) hK) rfl rfl hl.1 rfl (lv_room (Nat.le_of_ble_eq_true rfl)) dX6_setReference_2 ⟨Nat.le_of_ble_eq_true rfl, Nat.le_of_ble_eq_true rfl⟩) (fun _ h => h) hS rfl (fun locs hS => ?_)
  refine iv_eq (1) (by rw [if_pos (by omega)]) ?_
  refine iv_if_eq (tgt := 15) hx hb dX6_setReference_5 (by decide) (by omega) (fun c_5 => by exfalso; omega) (fun c_5 => ?_)
  refine lv_iload_n hx hb dX6_setReference_8 rfl (lv_lk hl rfl) ?_
  refine call_S (va_runS ⟨hx, hb, hml, hown, hts⟩ (m_X6_isRiddle l E ((q : Int)) (by omega)) (va_cwS 1 hts (gi_S ml_X6_64 st_X6_isRiddle it_X6 cd_X6_isRiddle) rfl rfl rfl (by decide +kernel) ⟨Nat.le_of_ble_eq_true rfl, Nat.le_of_ble_eq_true rfl⟩) (pR_S (hP.sub (ws' := []) [] rfl) hK) rfl rfl hl.1 rfl (lv_room (Nat.le_of_ble_eq_true rfl)) dX6_setReference_9 ⟨Nat.le_of_ble_eq_true rfl, Nat.le_of_ble_eq_true rfl⟩) (fun _ h => h) hS rfl (fun locs hS => ?_)
  refine iv_eq (1) (by rw [if_pos (by omega)]) ?_
  refine iv_if_ne (tgt := 19) hx hb dX6_setReference_12 (by decide) (by omega) (fun c_12 => ?_) (fun c_12 => by exfalso; omega)
  refine lv_iload_n hx hb dX6_setReference_19 rfl (lv_lk hl rfl) ?_
  refine lv_iload_n hx hb dX6_setReference_20 rfl (lv_lk hl rfl) ?_
  refine iv_icmp_eq (tgt := 35) hx hb dX6_setReference_21 (by decide) (by omega) (by omega) (fun c_21 => by exfalso; omega) (fun c_21 => ?_)
  refine lv_iload_n hx hb dX6_setReference_24 rfl (lv_lk hl rfl) ?_
  refine call_S (va_runS ⟨hx, hb, hml, hown, hts⟩ (m_X6_isAge l E a (by omega)) (va_cwS 1 hts (gi_S ml_X6_58 st_X6_isAge it_X6 cd_X6_isAge) rfl rfl rfl (by decide +kernel) ⟨Nat.le_of_ble_eq_true rfl, Nat.le_of_ble_eq_true rfl⟩) (pR_S (hP.sub (ws' := []) [] rfl) hK) rfl rfl hl.1 rfl (lv_room (Nat.le_of_ble_eq_true rfl)) dX6_setReference_25 ⟨Nat.le_of_ble_eq_true rfl, Nat.le_of_ble_eq_true rfl⟩) (fun _ h => h) hS rfl (fun locs hS => ?_)
  refine iv_eq (1) (by rw [if_pos (by omega)]) ?_
  refine iv_if_eq (tgt := 35) hx hb dX6_setReference_28 (by decide) (by omega) (fun c_28 => by exfalso; omega) (fun c_28 => ?_)
  refine iv_iconst hx hb dX6_setReference_31 ?_
  refine lv_goto (tgt := 36) hx hb dX6_setReference_32 (by decide) ?_
  refine va_put (ci := 6) (ty := .int) hx hb hts inX6 tyX6 tyX6_ok nmX6 hown hK.1 hP (dm hD rfl) hS 0 rfl rfl 0 (by decide) (hts _ fl_X6_32) (fun _ h9 => h9) rfl (by decide +kernel) rfl rfl (Nat.le_of_ble_eq_true rfl) dX6_setReference_36 (fun H locs hP _ hS => ?_)
  have hP : va_P E.1 vwCl (refW E ρ 0 ((n : Int)) tl pa kd nm st hi ke tx wy) H := hP
  refine lv_aload_n hx hb dX6_setReference_39 rfl (lv_lk hl rfl) ?_
  refine va_get (D := E.1) (ci := 6) hx hb hts inX6 hown hK.1 hP 0 rfl rfl 0 (by decide) (hts _ fl_X6_32) (fun _ h9 => h9) rfl dX6_setReference_40 ?_
  refine iv_if_le (tgt := 50) hx hb dX6_setReference_43 (by decide) (by omega) (fun c_43 => ?_) (fun c_43 => by exfalso; omega)
  refine lv_aload_n hx hb dX6_setReference_50 rfl (lv_lk hl rfl) ?_
  refine lv_iload_n hx hb dX6_setReference_51 rfl (lv_lk hl rfl) ?_
  refine iv_iconst hx hb dX6_setReference_52 ?_
  refine lv_iload_n hx hb dX6_setReference_53 rfl (lv_lk hl rfl) ?_
  refine lv_iload_n hx hb dX6_setReference_54 rfl (lv_lk hl rfl) ?_
  refine call_F (va_runV ⟨hx, hb, hml, hown, hts⟩ (m_X6_gives l E ρ 0 tl pa kd nm st hi ke tx wy hρ n hn r 2 ((q : Int)) a hr) (cwV 4 hts (gi_V ml_X6_67 im_X6_gives sl_X6_gives it_X6 cd_X6_gives) rfl rfl rfl (by decide +kernel) ⟨Nat.le_of_ble_eq_true rfl, Nat.le_of_ble_eq_true rfl⟩) (pR_V (q0 := 0) (ci := 6) hP hK rfl rfl) rfl rfl hl.1 rfl (lv_room (Nat.le_of_ble_eq_true rfl)) dX6_setReference_55 ⟨Nat.le_of_ble_eq_true rfl, Nat.le_of_ble_eq_true rfl⟩) (dm hD rfl) hS rfl (fun H locs hP hS => ?_)
  have hP : va_P E.1 vwCl (refW E ρ 0 ((recN n : Int)) tl pa kd nm (up (up (up st (36 + 6 * r) 2) (36 + 6 * r + 1) ((q : Int))) (36 + 6 * r + 2) a) (recH st hi n) ke tx wy) H := hP
  exact W.iret hx hb hrt (fun t ht hW => ⟨rfl, by rw [ht]; exact hP, hS.F ht⟩) hS.2.2 dX6_setReference_58 hlocks
set_option maxHeartbeats 4000000 in
set_option maxRecDepth 100000 in
theorem m_X6_setReference_bad1 (l : Launch) (E : Env3) (ρ : Nat → Nat) (th rc tl pa kd nm : Int) (st hi ke tx wy : S) (hρ : dR ρ 6) (r v a : Int) (hr : -2147483648 ≤ r ∧ r ≤ 2147483647) (hv : -2147483648 ≤ v ∧ v ≤ 2147483647) (ha : -2147483648 ≤ a ∧ a ≤ 2147483647) (h1 : ¬ (0 ≤ r ∧ r ≤ 35)) : Met l yX6_setReference (Cond.code yX6_setReference cX6_setReference 4 (some .int) :: ALL) ({ frames := 3, cells := 0, slots := 0, locals := 70 }) (pR [.ref (ρ 0), .int (I r), .int (I v), .int (I a)] E (refW E ρ th rc tl pa kd nm st hi ke tx wy)) (qW (some (.int (I 0))) E (refW E ρ th rc tl pa kd nm st hi ke tx wy) (refW E ρ 1 rc tl pa kd nm st hi ke tx wy)) 0 0 (adIn (refW E ρ th rc tl pa kd nm st hi ke tx wy)) := by
  refine mk_met (by decide) rfl (Nat.le_of_ble_eq_true rfl) ?_
  intro p e s m args below meth c hx hb hrt hml hts hown hlocks hnm hP hK ls hl
  have hown : s.vm.findClass RX6 = some m.cls := hown
  have hl : lv_has ls 4 [(0, .ref (ρ 0)), (1, .int (I r)), (2, .int (I v)), (3, .int (I a))] := hl
  have hD : va_D (adIn (refW E ρ th rc tl pa kd nm st hi ke tx wy)) (refW E ρ th rc tl pa kd nm st hi ke tx wy) := D_of_dR hρ rfl
  have hS : va_S (adIn (refW E ρ th rc tl pa kd nm st hi ke tx wy)) s.heap s.heap [] := va_S.rf
  refine lv_aload_n hx hb dX6_setReference_0 rfl (lv_lk hl rfl) ?_
  refine lv_iload_n hx hb dX6_setReference_1 rfl (lv_lk hl rfl) ?_
  refine call_S (va_runS ⟨hx, hb, hml, hown, hts⟩ (m_X6_isRiddle l E r (by omega)) (va_cwS 1 hts (gi_S ml_X6_64 st_X6_isRiddle it_X6 cd_X6_isRiddle) rfl rfl rfl (by decide +kernel) ⟨Nat.le_of_ble_eq_true rfl, Nat.le_of_ble_eq_true rfl⟩) (pR_S (hP.sub (ws' := []) [] rfl) hK) rfl rfl hl.1 rfl (lv_room (Nat.le_of_ble_eq_true rfl)) dX6_setReference_2 ⟨Nat.le_of_ble_eq_true rfl, Nat.le_of_ble_eq_true rfl⟩) (fun _ h => h) hS rfl (fun locs hS => ?_)
  refine iv_eq (0) (by rw [if_neg (by omega)]) ?_
  refine iv_if_eq (tgt := 15) hx hb dX6_setReference_5 (by decide) (by omega) (fun c_5 => ?_) (fun c_5 => by exfalso; omega)
  refine iv_iconst hx hb dX6_setReference_15 ?_
  refine lv_goto (tgt := 36) hx hb dX6_setReference_16 (by decide) ?_
  refine va_put (ci := 6) (ty := .int) hx hb hts inX6 tyX6 tyX6_ok nmX6 hown hK.1 hP (dm hD rfl) hS 0 rfl rfl 0 (by decide) (hts _ fl_X6_32) (fun _ h9 => h9) rfl (by decide +kernel) rfl rfl (Nat.le_of_ble_eq_true rfl) dX6_setReference_36 (fun H locs hP _ hS => ?_)
  have hP : va_P E.1 vwCl (refW E ρ 1 rc tl pa kd nm st hi ke tx wy) H := hP
  refine lv_aload_n hx hb dX6_setReference_39 rfl (lv_lk hl rfl) ?_
  refine va_get (D := E.1) (ci := 6) hx hb hts inX6 hown hK.1 hP 0 rfl rfl 0 (by decide) (hts _ fl_X6_32) (fun _ h9 => h9) rfl dX6_setReference_40 ?_
  refine iv_if_le (tgt := 50) hx hb dX6_setReference_43 (by decide) (by omega) (fun c_43 => by exfalso; omega) (fun c_43 => ?_)
  refine iv_iconst hx hb dX6_setReference_46 ?_
  refine lv_goto (tgt := 58) hx hb dX6_setReference_47 (by decide) ?_
  exact W.iret hx hb hrt (fun t ht hW => ⟨rfl, by rw [ht]; exact hP, hS.F ht⟩) hS.2.2 dX6_setReference_58 hlocks
set_option maxHeartbeats 4000000 in
set_option maxRecDepth 100000 in
theorem m_X6_setReference_bad2 (l : Launch) (E : Env3) (ρ : Nat → Nat) (th rc tl pa kd nm : Int) (st hi ke tx wy : S) (hρ : dR ρ 6) (r v a : Int) (hr : -2147483648 ≤ r ∧ r ≤ 2147483647) (hv : -2147483648 ≤ v ∧ v ≤ 2147483647) (ha : -2147483648 ≤ a ∧ a ≤ 2147483647) (h1 : 0 ≤ r ∧ r ≤ 35) (h2 : ¬ (0 ≤ v ∧ v ≤ 35)) : Met l yX6_setReference (Cond.code yX6_setReference cX6_setReference 4 (some .int) :: ALL) ({ frames := 3, cells := 0, slots := 0, locals := 70 }) (pR [.ref (ρ 0), .int (I r), .int (I v), .int (I a)] E (refW E ρ th rc tl pa kd nm st hi ke tx wy)) (qW (some (.int (I 0))) E (refW E ρ th rc tl pa kd nm st hi ke tx wy) (refW E ρ 1 rc tl pa kd nm st hi ke tx wy)) 0 0 (adIn (refW E ρ th rc tl pa kd nm st hi ke tx wy)) := by
  refine mk_met (by decide) rfl (Nat.le_of_ble_eq_true rfl) ?_
  intro p e s m args below meth c hx hb hrt hml hts hown hlocks hnm hP hK ls hl
  have hown : s.vm.findClass RX6 = some m.cls := hown
  have hl : lv_has ls 4 [(0, .ref (ρ 0)), (1, .int (I r)), (2, .int (I v)), (3, .int (I a))] := hl
  have hD : va_D (adIn (refW E ρ th rc tl pa kd nm st hi ke tx wy)) (refW E ρ th rc tl pa kd nm st hi ke tx wy) := D_of_dR hρ rfl
  have hS : va_S (adIn (refW E ρ th rc tl pa kd nm st hi ke tx wy)) s.heap s.heap [] := va_S.rf
  refine lv_aload_n hx hb dX6_setReference_0 rfl (lv_lk hl rfl) ?_
  refine lv_iload_n hx hb dX6_setReference_1 rfl (lv_lk hl rfl) ?_
  refine call_S (va_runS ⟨hx, hb, hml, hown, hts⟩ (m_X6_isRiddle l E r (by omega)) (va_cwS 1 hts (gi_S ml_X6_64 st_X6_isRiddle it_X6 cd_X6_isRiddle) rfl rfl rfl (by decide +kernel) ⟨Nat.le_of_ble_eq_true rfl, Nat.le_of_ble_eq_true rfl⟩) (pR_S (hP.sub (ws' := []) [] rfl) hK) rfl rfl hl.1 rfl (lv_room (Nat.le_of_ble_eq_true rfl)) dX6_setReference_2 ⟨Nat.le_of_ble_eq_true rfl, Nat.le_of_ble_eq_true rfl⟩) (fun _ h => h) hS rfl (fun locs hS => ?_)
  refine iv_eq (1) (by rw [if_pos (by omega)]) ?_
  refine iv_if_eq (tgt := 15) hx hb dX6_setReference_5 (by decide) (by omega) (fun c_5 => by exfalso; omega) (fun c_5 => ?_)
  refine lv_iload_n hx hb dX6_setReference_8 rfl (lv_lk hl rfl) ?_
  refine call_S (va_runS ⟨hx, hb, hml, hown, hts⟩ (m_X6_isRiddle l E v (by omega)) (va_cwS 1 hts (gi_S ml_X6_64 st_X6_isRiddle it_X6 cd_X6_isRiddle) rfl rfl rfl (by decide +kernel) ⟨Nat.le_of_ble_eq_true rfl, Nat.le_of_ble_eq_true rfl⟩) (pR_S (hP.sub (ws' := []) [] rfl) hK) rfl rfl hl.1 rfl (lv_room (Nat.le_of_ble_eq_true rfl)) dX6_setReference_9 ⟨Nat.le_of_ble_eq_true rfl, Nat.le_of_ble_eq_true rfl⟩) (fun _ h => h) hS rfl (fun locs hS => ?_)
  refine iv_eq (0) (by rw [if_neg (by omega)]) ?_
  refine iv_if_ne (tgt := 19) hx hb dX6_setReference_12 (by decide) (by omega) (fun c_12 => by exfalso; omega) (fun c_12 => ?_)
  refine iv_iconst hx hb dX6_setReference_15 ?_
  refine lv_goto (tgt := 36) hx hb dX6_setReference_16 (by decide) ?_
  refine va_put (ci := 6) (ty := .int) hx hb hts inX6 tyX6 tyX6_ok nmX6 hown hK.1 hP (dm hD rfl) hS 0 rfl rfl 0 (by decide) (hts _ fl_X6_32) (fun _ h9 => h9) rfl (by decide +kernel) rfl rfl (Nat.le_of_ble_eq_true rfl) dX6_setReference_36 (fun H locs hP _ hS => ?_)
  have hP : va_P E.1 vwCl (refW E ρ 1 rc tl pa kd nm st hi ke tx wy) H := hP
  refine lv_aload_n hx hb dX6_setReference_39 rfl (lv_lk hl rfl) ?_
  refine va_get (D := E.1) (ci := 6) hx hb hts inX6 hown hK.1 hP 0 rfl rfl 0 (by decide) (hts _ fl_X6_32) (fun _ h9 => h9) rfl dX6_setReference_40 ?_
  refine iv_if_le (tgt := 50) hx hb dX6_setReference_43 (by decide) (by omega) (fun c_43 => by exfalso; omega) (fun c_43 => ?_)
  refine iv_iconst hx hb dX6_setReference_46 ?_
  refine lv_goto (tgt := 58) hx hb dX6_setReference_47 (by decide) ?_
  exact W.iret hx hb hrt (fun t ht hW => ⟨rfl, by rw [ht]; exact hP, hS.F ht⟩) hS.2.2 dX6_setReference_58 hlocks
set_option maxHeartbeats 4000000 in
set_option maxRecDepth 100000 in
theorem m_X6_setReference_bad3 (l : Launch) (E : Env3) (ρ : Nat → Nat) (th rc tl pa kd nm : Int) (st hi ke tx wy : S) (hρ : dR ρ 6) (r v a : Int) (hr : -2147483648 ≤ r ∧ r ≤ 2147483647) (hv : -2147483648 ≤ v ∧ v ≤ 2147483647) (ha : -2147483648 ≤ a ∧ a ≤ 2147483647) (h1 : 0 ≤ r ∧ r ≤ 35) (h2 : 0 ≤ v ∧ v ≤ 35) (h3 : r = v) : Met l yX6_setReference (Cond.code yX6_setReference cX6_setReference 4 (some .int) :: ALL) ({ frames := 3, cells := 0, slots := 0, locals := 70 }) (pR [.ref (ρ 0), .int (I r), .int (I v), .int (I a)] E (refW E ρ th rc tl pa kd nm st hi ke tx wy)) (qW (some (.int (I 0))) E (refW E ρ th rc tl pa kd nm st hi ke tx wy) (refW E ρ 2 rc tl pa kd nm st hi ke tx wy)) 0 0 (adIn (refW E ρ th rc tl pa kd nm st hi ke tx wy)) := by
  refine mk_met (by decide) rfl (Nat.le_of_ble_eq_true rfl) ?_
  intro p e s m args below meth c hx hb hrt hml hts hown hlocks hnm hP hK ls hl
  have hown : s.vm.findClass RX6 = some m.cls := hown
  have hl : lv_has ls 4 [(0, .ref (ρ 0)), (1, .int (I r)), (2, .int (I v)), (3, .int (I a))] := hl
  have hD : va_D (adIn (refW E ρ th rc tl pa kd nm st hi ke tx wy)) (refW E ρ th rc tl pa kd nm st hi ke tx wy) := D_of_dR hρ rfl
  have hS : va_S (adIn (refW E ρ th rc tl pa kd nm st hi ke tx wy)) s.heap s.heap [] := va_S.rf
  refine lv_aload_n hx hb dX6_setReference_0 rfl (lv_lk hl rfl) ?_
  refine lv_iload_n hx hb dX6_setReference_1 rfl (lv_lk hl rfl) ?_
  refine call_S (va_runS ⟨hx, hb, hml, hown, hts⟩ (m_X6_isRiddle l E r (by omega)) (va_cwS 1 hts (gi_S ml_X6_64 st_X6_isRiddle it_X6 cd_X6_isRiddle) rfl rfl rfl (by decide +kernel) ⟨Nat.le_of_ble_eq_true rfl, Nat.le_of_ble_eq_true rfl⟩) (pR_S (hP.sub (ws' := []) [] rfl) hK) rfl rfl hl.1 rfl (lv_room (Nat.le_of_ble_eq_true rfl)) dX6_setReference_2 ⟨Nat.le_of_ble_eq_true rfl, Nat.le_of_ble_eq_true rfl⟩) (fun _ h => h) hS rfl (fun locs hS => ?_)
  refine iv_eq (1) (by rw [if_pos (by omega)]) ?_
  refine iv_if_eq (tgt := 15) hx hb dX6_setReference_5 (by decide) (by omega) (fun c_5 => by exfalso; omega) (fun c_5 => ?_)
  refine lv_iload_n hx hb dX6_setReference_8 rfl (lv_lk hl rfl) ?_
  refine call_S (va_runS ⟨hx, hb, hml, hown, hts⟩ (m_X6_isRiddle l E v (by omega)) (va_cwS 1 hts (gi_S ml_X6_64 st_X6_isRiddle it_X6 cd_X6_isRiddle) rfl rfl rfl (by decide +kernel) ⟨Nat.le_of_ble_eq_true rfl, Nat.le_of_ble_eq_true rfl⟩) (pR_S (hP.sub (ws' := []) [] rfl) hK) rfl rfl hl.1 rfl (lv_room (Nat.le_of_ble_eq_true rfl)) dX6_setReference_9 ⟨Nat.le_of_ble_eq_true rfl, Nat.le_of_ble_eq_true rfl⟩) (fun _ h => h) hS rfl (fun locs hS => ?_)
  refine iv_eq (1) (by rw [if_pos (by omega)]) ?_
  refine iv_if_ne (tgt := 19) hx hb dX6_setReference_12 (by decide) (by omega) (fun c_12 => ?_) (fun c_12 => by exfalso; omega)
  refine lv_iload_n hx hb dX6_setReference_19 rfl (lv_lk hl rfl) ?_
  refine lv_iload_n hx hb dX6_setReference_20 rfl (lv_lk hl rfl) ?_
  refine iv_icmp_eq (tgt := 35) hx hb dX6_setReference_21 (by decide) (by omega) (by omega) (fun c_21 => ?_) (fun c_21 => by exfalso; omega)
  refine iv_iconst hx hb dX6_setReference_35 ?_
  refine va_put (ci := 6) (ty := .int) hx hb hts inX6 tyX6 tyX6_ok nmX6 hown hK.1 hP (dm hD rfl) hS 0 rfl rfl 0 (by decide) (hts _ fl_X6_32) (fun _ h9 => h9) rfl (by decide +kernel) rfl rfl (Nat.le_of_ble_eq_true rfl) dX6_setReference_36 (fun H locs hP _ hS => ?_)
  have hP : va_P E.1 vwCl (refW E ρ 2 rc tl pa kd nm st hi ke tx wy) H := hP
  refine lv_aload_n hx hb dX6_setReference_39 rfl (lv_lk hl rfl) ?_
  refine va_get (D := E.1) (ci := 6) hx hb hts inX6 hown hK.1 hP 0 rfl rfl 0 (by decide) (hts _ fl_X6_32) (fun _ h9 => h9) rfl dX6_setReference_40 ?_
  refine iv_if_le (tgt := 50) hx hb dX6_setReference_43 (by decide) (by omega) (fun c_43 => by exfalso; omega) (fun c_43 => ?_)
  refine iv_iconst hx hb dX6_setReference_46 ?_
  refine lv_goto (tgt := 58) hx hb dX6_setReference_47 (by decide) ?_
  exact W.iret hx hb hrt (fun t ht hW => ⟨rfl, by rw [ht]; exact hP, hS.F ht⟩) hS.2.2 dX6_setReference_58 hlocks
set_option maxHeartbeats 4000000 in
set_option maxRecDepth 100000 in
theorem m_X6_setReference_bad4 (l : Launch) (E : Env3) (ρ : Nat → Nat) (th rc tl pa kd nm : Int) (st hi ke tx wy : S) (hρ : dR ρ 6) (r v a : Int) (hr : -2147483648 ≤ r ∧ r ≤ 2147483647) (hv : -2147483648 ≤ v ∧ v ≤ 2147483647) (ha : -2147483648 ≤ a ∧ a ≤ 2147483647) (h1 : 0 ≤ r ∧ r ≤ 35) (h2 : 0 ≤ v ∧ v ≤ 35) (h3 : ¬ r = v) (h4 : ¬ (1 ≤ a ∧ a ≤ 99)) : Met l yX6_setReference (Cond.code yX6_setReference cX6_setReference 4 (some .int) :: ALL) ({ frames := 3, cells := 0, slots := 0, locals := 70 }) (pR [.ref (ρ 0), .int (I r), .int (I v), .int (I a)] E (refW E ρ th rc tl pa kd nm st hi ke tx wy)) (qW (some (.int (I 0))) E (refW E ρ th rc tl pa kd nm st hi ke tx wy) (refW E ρ 2 rc tl pa kd nm st hi ke tx wy)) 0 0 (adIn (refW E ρ th rc tl pa kd nm st hi ke tx wy)) := by
  refine mk_met (by decide) rfl (Nat.le_of_ble_eq_true rfl) ?_
  intro p e s m args below meth c hx hb hrt hml hts hown hlocks hnm hP hK ls hl
  have hown : s.vm.findClass RX6 = some m.cls := hown
  have hl : lv_has ls 4 [(0, .ref (ρ 0)), (1, .int (I r)), (2, .int (I v)), (3, .int (I a))] := hl
  have hD : va_D (adIn (refW E ρ th rc tl pa kd nm st hi ke tx wy)) (refW E ρ th rc tl pa kd nm st hi ke tx wy) := D_of_dR hρ rfl
  have hS : va_S (adIn (refW E ρ th rc tl pa kd nm st hi ke tx wy)) s.heap s.heap [] := va_S.rf
  refine lv_aload_n hx hb dX6_setReference_0 rfl (lv_lk hl rfl) ?_
  refine lv_iload_n hx hb dX6_setReference_1 rfl (lv_lk hl rfl) ?_
  refine call_S (va_runS ⟨hx, hb, hml, hown, hts⟩ (m_X6_isRiddle l E r (by omega)) (va_cwS 1 hts (gi_S ml_X6_64 st_X6_isRiddle it_X6 cd_X6_isRiddle) rfl rfl rfl (by decide +kernel) ⟨Nat.le_of_ble_eq_true rfl, Nat.le_of_ble_eq_true rfl⟩) (pR_S (hP.sub (ws' := []) [] rfl) hK) rfl rfl hl.1 rfl (lv_room (Nat.le_of_ble_eq_true rfl)) dX6_setReference_2 ⟨Nat.le_of_ble_eq_true rfl, Nat.le_of_ble_eq_true rfl⟩) (fun _ h => h) hS rfl (fun locs hS => ?_)
  refine iv_eq (1) (by rw [if_pos (by omega)]) ?_
  refine iv_if_eq (tgt := 15) hx hb dX6_setReference_5 (by decide) (by omega) (fun c_5 => by exfalso; omega) (fun c_5 => ?_)
  refine lv_iload_n hx hb dX6_setReference_8 rfl (lv_lk hl rfl) ?_
  refine call_S (va_runS ⟨hx, hb, hml, hown, hts⟩ (m_X6_isRiddle l E v (by omega)) (va_cwS 1 hts (gi_S ml_X6_64 st_X6_isRiddle it_X6 cd_X6_isRiddle) rfl rfl rfl (by decide +kernel) ⟨Nat.le_of_ble_eq_true rfl, Nat.le_of_ble_eq_true rfl⟩) (pR_S (hP.sub (ws' := []) [] rfl) hK) rfl rfl hl.1 rfl (lv_room (Nat.le_of_ble_eq_true rfl)) dX6_setReference_9 ⟨Nat.le_of_ble_eq_true rfl, Nat.le_of_ble_eq_true rfl⟩) (fun _ h => h) hS rfl (fun locs hS => ?_)
  refine iv_eq (1) (by rw [if_pos (by omega)]) ?_
  refine iv_if_ne (tgt := 19) hx hb dX6_setReference_12 (by decide) (by omega) (fun c_12 => ?_) (fun c_12 => by exfalso; omega)
  refine lv_iload_n hx hb dX6_setReference_19 rfl (lv_lk hl rfl) ?_
  refine lv_iload_n hx hb dX6_setReference_20 rfl (lv_lk hl rfl) ?_
  refine iv_icmp_eq (tgt := 35) hx hb dX6_setReference_21 (by decide) (by omega) (by omega) (fun c_21 => by exfalso; omega) (fun c_21 => ?_)
  refine lv_iload_n hx hb dX6_setReference_24 rfl (lv_lk hl rfl) ?_
  refine call_S (va_runS ⟨hx, hb, hml, hown, hts⟩ (m_X6_isAge l E a (by omega)) (va_cwS 1 hts (gi_S ml_X6_58 st_X6_isAge it_X6 cd_X6_isAge) rfl rfl rfl (by decide +kernel) ⟨Nat.le_of_ble_eq_true rfl, Nat.le_of_ble_eq_true rfl⟩) (pR_S (hP.sub (ws' := []) [] rfl) hK) rfl rfl hl.1 rfl (lv_room (Nat.le_of_ble_eq_true rfl)) dX6_setReference_25 ⟨Nat.le_of_ble_eq_true rfl, Nat.le_of_ble_eq_true rfl⟩) (fun _ h => h) hS rfl (fun locs hS => ?_)
  refine iv_eq (0) (by rw [if_neg (by omega)]) ?_
  refine iv_if_eq (tgt := 35) hx hb dX6_setReference_28 (by decide) (by omega) (fun c_28 => ?_) (fun c_28 => by exfalso; omega)
  refine iv_iconst hx hb dX6_setReference_35 ?_
  refine va_put (ci := 6) (ty := .int) hx hb hts inX6 tyX6 tyX6_ok nmX6 hown hK.1 hP (dm hD rfl) hS 0 rfl rfl 0 (by decide) (hts _ fl_X6_32) (fun _ h9 => h9) rfl (by decide +kernel) rfl rfl (Nat.le_of_ble_eq_true rfl) dX6_setReference_36 (fun H locs hP _ hS => ?_)
  have hP : va_P E.1 vwCl (refW E ρ 2 rc tl pa kd nm st hi ke tx wy) H := hP
  refine lv_aload_n hx hb dX6_setReference_39 rfl (lv_lk hl rfl) ?_
  refine va_get (D := E.1) (ci := 6) hx hb hts inX6 hown hK.1 hP 0 rfl rfl 0 (by decide) (hts _ fl_X6_32) (fun _ h9 => h9) rfl dX6_setReference_40 ?_
  refine iv_if_le (tgt := 50) hx hb dX6_setReference_43 (by decide) (by omega) (fun c_43 => by exfalso; omega) (fun c_43 => ?_)
  refine iv_iconst hx hb dX6_setReference_46 ?_
  refine lv_goto (tgt := 58) hx hb dX6_setReference_47 (by decide) ?_
  exact W.iret hx hb hrt (fun t ht hW => ⟨rfl, by rw [ht]; exact hP, hS.F ht⟩) hS.2.2 dX6_setReference_58 hlocks
set_option maxHeartbeats 4000000 in
set_option maxRecDepth 100000 in
theorem m_X6_takeAway_ok (l : Launch) (E : Env3) (ρ : Nat → Nat) (th tl pa kd nm : Int) (st hi ke tx wy : S) (hρ : dR ρ 6) (n : Nat) (hn : n ≤ 6) (r : Nat) (hr : r < 36) (hk9 : -2147483648 ≤ st (36 + 6 * r) ∧ st (36 + 6 * r) ≤ 2147483647) (hk8 : ¬ st (36 + 6 * r) = 0) : Met l yX6_takeAway (Cond.code yX6_takeAway cX6_takeAway 2 (some .int) :: ALL) ({ frames := 3, cells := 0, slots := 0, locals := 70 }) (pR [.ref (ρ 0), .int (I (r : Int))] E (refW E ρ th ((n : Int)) tl pa kd nm st hi ke tx wy)) (qW (some (.int (I (st (36 + 6 * r))))) E (refW E ρ th ((n : Int)) tl pa kd nm st hi ke tx wy) (refW E ρ 0 ((recN n : Int)) tl pa kd nm (up (up (up st (36 + 6 * r) 0) (36 + 6 * r + 1) (-1)) (36 + 6 * r + 2) 0) (recH st hi n) ke tx wy)) 0 0 (adIn (refW E ρ th ((n : Int)) tl pa kd nm st hi ke tx wy)) := by
  refine mk_met (by decide) rfl (Nat.le_of_ble_eq_true rfl) ?_
  intro p e s m args below meth c hx hb hrt hml hts hown hlocks hnm hP hK ls hl
  have hown : s.vm.findClass RX6 = some m.cls := hown
  have hl : lv_has ls 2 [(0, .ref (ρ 0)), (1, .int (I (r : Int)))] := hl
  have hD : va_D (adIn (refW E ρ th ((n : Int)) tl pa kd nm st hi ke tx wy)) (refW E ρ th ((n : Int)) tl pa kd nm st hi ke tx wy) := D_of_dR hρ rfl
  have hS : va_S (adIn (refW E ρ th ((n : Int)) tl pa kd nm st hi ke tx wy)) s.heap s.heap [] := va_S.rf
  refine lv_aload_n hx hb dX6_takeAway_0 rfl (lv_lk hl rfl) ?_
  refine lv_iload_n hx hb dX6_takeAway_1 rfl (lv_lk hl rfl) ?_
  refine call_S (va_runS ⟨hx, hb, hml, hown, hts⟩ (m_X6_isRiddle l E ((r : Int)) (by omega)) (va_cwS 1 hts (gi_S ml_X6_64 st_X6_isRiddle it_X6 cd_X6_isRiddle) rfl rfl rfl (by decide +kernel) ⟨Nat.le_of_ble_eq_true rfl, Nat.le_of_ble_eq_true rfl⟩) (pR_S (hP.sub (ws' := []) [] rfl) hK) rfl rfl hl.1 rfl (lv_room (Nat.le_of_ble_eq_true rfl)) dX6_takeAway_2 ⟨Nat.le_of_ble_eq_true rfl, Nat.le_of_ble_eq_true rfl⟩) (fun _ h => h) hS rfl (fun locs hS => ?_)
  refine iv_eq (1) (by rw [if_pos (by omega)]) ?_
  refine iv_if_ne (tgt := 12) hx hb dX6_takeAway_5 (by decide) (by omega) (fun c_5 => ?_) (fun c_5 => by exfalso; omega)
  refine lv_aload_n hx hb dX6_takeAway_12 rfl (lv_lk hl rfl) ?_
  refine lv_iload_n hx hb dX6_takeAway_13 rfl (lv_lk hl rfl) ?_
  refine iv_iconst hx hb dX6_takeAway_14 ?_
  refine call_S (va_runV ⟨hx, hb, hml, hown, hts⟩ (m_X6_of l E ρ th ((n : Int)) tl pa kd nm st hi ke tx wy r 0 hr (by decide)) (cwV 2 hts (gi_V ml_X6_61 im_X6_of sl_X6_of it_X6 cd_X6_of) rfl rfl rfl (by decide +kernel) ⟨Nat.le_of_ble_eq_true rfl, Nat.le_of_ble_eq_true rfl⟩) (pR_V (q0 := 0) (ci := 6) hP hK rfl rfl) rfl rfl hl.1 rfl (lv_room (Nat.le_of_ble_eq_true rfl)) dX6_takeAway_15 ⟨Nat.le_of_ble_eq_true rfl, Nat.le_of_ble_eq_true rfl⟩) (fun _ h => h) hS rfl (fun locs hS => ?_)
  refine iv_eq (st (36 + 6 * r)) (rfl) ?_
  refine iv_if_ne (tgt := 25) hx hb dX6_takeAway_18 (by decide) (by omega) (fun c_18 => ?_) (fun c_18 => by exfalso; omega)
  refine iv_iconst hx hb dX6_takeAway_25 ?_
  refine va_put (ci := 6) (ty := .int) hx hb hts inX6 tyX6 tyX6_ok nmX6 hown hK.1 hP (dm hD rfl) hS 0 rfl rfl 0 (by decide) (hts _ fl_X6_32) (fun _ h9 => h9) rfl (by decide +kernel) rfl rfl (Nat.le_of_ble_eq_true rfl) dX6_takeAway_26 (fun H locs hP _ hS => ?_)
  have hP : va_P E.1 vwCl (refW E ρ 0 ((n : Int)) tl pa kd nm st hi ke tx wy) H := hP
  refine lv_aload_n hx hb dX6_takeAway_29 rfl (lv_lk hl rfl) ?_
  refine va_get (D := E.1) (ci := 6) hx hb hts inX6 hown hK.1 hP 0 rfl rfl 0 (by decide) (hts _ fl_X6_32) (fun _ h9 => h9) rfl dX6_takeAway_30 ?_
  refine iv_if_le (tgt := 40) hx hb dX6_takeAway_33 (by decide) (by omega) (fun c_33 => ?_) (fun c_33 => by exfalso; omega)
  refine lv_aload_n hx hb dX6_takeAway_40 rfl (lv_lk hl rfl) ?_
  refine lv_iload_n hx hb dX6_takeAway_41 rfl (lv_lk hl rfl) ?_
  refine iv_iconst hx hb dX6_takeAway_42 ?_
  refine iv_iconst hx hb dX6_takeAway_43 ?_
  refine iv_iconst hx hb dX6_takeAway_44 ?_
  refine call_F (va_runV ⟨hx, hb, hml, hown, hts⟩ (m_X6_gives l E ρ 0 tl pa kd nm st hi ke tx wy hρ n hn r 0 (-1) 0 hr) (cwV 4 hts (gi_V ml_X6_67 im_X6_gives sl_X6_gives it_X6 cd_X6_gives) rfl rfl rfl (by decide +kernel) ⟨Nat.le_of_ble_eq_true rfl, Nat.le_of_ble_eq_true rfl⟩) (pR_V (q0 := 0) (ci := 6) hP hK rfl rfl) rfl rfl hl.1 rfl (lv_room (Nat.le_of_ble_eq_true rfl)) dX6_takeAway_45 ⟨Nat.le_of_ble_eq_true rfl, Nat.le_of_ble_eq_true rfl⟩) (dm hD rfl) hS rfl (fun H locs hP hS => ?_)
  have hP : va_P E.1 vwCl (refW E ρ 0 ((recN n : Int)) tl pa kd nm (up (up (up st (36 + 6 * r) 0) (36 + 6 * r + 1) (-1)) (36 + 6 * r + 2) 0) (recH st hi n) ke tx wy) H := hP
  exact W.iret hx hb hrt (fun t ht hW => ⟨rfl, by rw [ht]; exact hP, hS.F ht⟩) hS.2.2 dX6_takeAway_48 hlocks
set_option maxHeartbeats 4000000 in
set_option maxRecDepth 100000 in
theorem m_X6_takeAway_bad1 (l : Launch) (E : Env3) (ρ : Nat → Nat) (th rc tl pa kd nm : Int) (st hi ke tx wy : S) (hρ : dR ρ 6) (r : Int) (hr : -2147483648 ≤ r ∧ r ≤ 2147483647) (h1 : ¬ (0 ≤ r ∧ r ≤ 35)) : Met l yX6_takeAway (Cond.code yX6_takeAway cX6_takeAway 2 (some .int) :: ALL) ({ frames := 3, cells := 0, slots := 0, locals := 70 }) (pR [.ref (ρ 0), .int (I r)] E (refW E ρ th rc tl pa kd nm st hi ke tx wy)) (qW (some (.int (I 0))) E (refW E ρ th rc tl pa kd nm st hi ke tx wy) (refW E ρ 1 rc tl pa kd nm st hi ke tx wy)) 0 0 (adIn (refW E ρ th rc tl pa kd nm st hi ke tx wy)) := by
  refine mk_met (by decide) rfl (Nat.le_of_ble_eq_true rfl) ?_
  intro p e s m args below meth c hx hb hrt hml hts hown hlocks hnm hP hK ls hl
  have hown : s.vm.findClass RX6 = some m.cls := hown
  have hl : lv_has ls 2 [(0, .ref (ρ 0)), (1, .int (I r))] := hl
  have hD : va_D (adIn (refW E ρ th rc tl pa kd nm st hi ke tx wy)) (refW E ρ th rc tl pa kd nm st hi ke tx wy) := D_of_dR hρ rfl
  have hS : va_S (adIn (refW E ρ th rc tl pa kd nm st hi ke tx wy)) s.heap s.heap [] := va_S.rf
  refine lv_aload_n hx hb dX6_takeAway_0 rfl (lv_lk hl rfl) ?_
  refine lv_iload_n hx hb dX6_takeAway_1 rfl (lv_lk hl rfl) ?_
  refine call_S (va_runS ⟨hx, hb, hml, hown, hts⟩ (m_X6_isRiddle l E r (by omega)) (va_cwS 1 hts (gi_S ml_X6_64 st_X6_isRiddle it_X6 cd_X6_isRiddle) rfl rfl rfl (by decide +kernel) ⟨Nat.le_of_ble_eq_true rfl, Nat.le_of_ble_eq_true rfl⟩) (pR_S (hP.sub (ws' := []) [] rfl) hK) rfl rfl hl.1 rfl (lv_room (Nat.le_of_ble_eq_true rfl)) dX6_takeAway_2 ⟨Nat.le_of_ble_eq_true rfl, Nat.le_of_ble_eq_true rfl⟩) (fun _ h => h) hS rfl (fun locs hS => ?_)
  refine iv_eq (0) (by rw [if_neg (by omega)]) ?_
  refine iv_if_ne (tgt := 12) hx hb dX6_takeAway_5 (by decide) (by omega) (fun c_5 => by exfalso; omega) (fun c_5 => ?_)
  refine iv_iconst hx hb dX6_takeAway_8 ?_
  refine lv_goto (tgt := 26) hx hb dX6_takeAway_9 (by decide) ?_
  refine va_put (ci := 6) (ty := .int) hx hb hts inX6 tyX6 tyX6_ok nmX6 hown hK.1 hP (dm hD rfl) hS 0 rfl rfl 0 (by decide) (hts _ fl_X6_32) (fun _ h9 => h9) rfl (by decide +kernel) rfl rfl (Nat.le_of_ble_eq_true rfl) dX6_takeAway_26 (fun H locs hP _ hS => ?_)
  have hP : va_P E.1 vwCl (refW E ρ 1 rc tl pa kd nm st hi ke tx wy) H := hP
  refine lv_aload_n hx hb dX6_takeAway_29 rfl (lv_lk hl rfl) ?_
  refine va_get (D := E.1) (ci := 6) hx hb hts inX6 hown hK.1 hP 0 rfl rfl 0 (by decide) (hts _ fl_X6_32) (fun _ h9 => h9) rfl dX6_takeAway_30 ?_
  refine iv_if_le (tgt := 40) hx hb dX6_takeAway_33 (by decide) (by omega) (fun c_33 => by exfalso; omega) (fun c_33 => ?_)
  refine iv_iconst hx hb dX6_takeAway_36 ?_
  refine lv_goto (tgt := 48) hx hb dX6_takeAway_37 (by decide) ?_
  exact W.iret hx hb hrt (fun t ht hW => ⟨rfl, by rw [ht]; exact hP, hS.F ht⟩) hS.2.2 dX6_takeAway_48 hlocks
set_option maxHeartbeats 4000000 in
set_option maxRecDepth 100000 in
theorem m_X6_takeAway_bad2 (l : Launch) (E : Env3) (ρ : Nat → Nat) (th rc tl pa kd nm : Int) (st hi ke tx wy : S) (hρ : dR ρ 6) (r : Nat) (hr : r < 36) (hk8 : st (36 + 6 * r) = 0) : Met l yX6_takeAway (Cond.code yX6_takeAway cX6_takeAway 2 (some .int) :: ALL) ({ frames := 3, cells := 0, slots := 0, locals := 70 }) (pR [.ref (ρ 0), .int (I (r : Int))] E (refW E ρ th rc tl pa kd nm st hi ke tx wy)) (qW (some (.int (I 0))) E (refW E ρ th rc tl pa kd nm st hi ke tx wy) (refW E ρ 2 rc tl pa kd nm st hi ke tx wy)) 0 0 (adIn (refW E ρ th rc tl pa kd nm st hi ke tx wy)) := by
  refine mk_met (by decide) rfl (Nat.le_of_ble_eq_true rfl) ?_
  intro p e s m args below meth c hx hb hrt hml hts hown hlocks hnm hP hK ls hl
  have hown : s.vm.findClass RX6 = some m.cls := hown
  have hl : lv_has ls 2 [(0, .ref (ρ 0)), (1, .int (I (r : Int)))] := hl
  have hD : va_D (adIn (refW E ρ th rc tl pa kd nm st hi ke tx wy)) (refW E ρ th rc tl pa kd nm st hi ke tx wy) := D_of_dR hρ rfl
  have hS : va_S (adIn (refW E ρ th rc tl pa kd nm st hi ke tx wy)) s.heap s.heap [] := va_S.rf
  refine lv_aload_n hx hb dX6_takeAway_0 rfl (lv_lk hl rfl) ?_
  refine lv_iload_n hx hb dX6_takeAway_1 rfl (lv_lk hl rfl) ?_
  refine call_S (va_runS ⟨hx, hb, hml, hown, hts⟩ (m_X6_isRiddle l E ((r : Int)) (by omega)) (va_cwS 1 hts (gi_S ml_X6_64 st_X6_isRiddle it_X6 cd_X6_isRiddle) rfl rfl rfl (by decide +kernel) ⟨Nat.le_of_ble_eq_true rfl, Nat.le_of_ble_eq_true rfl⟩) (pR_S (hP.sub (ws' := []) [] rfl) hK) rfl rfl hl.1 rfl (lv_room (Nat.le_of_ble_eq_true rfl)) dX6_takeAway_2 ⟨Nat.le_of_ble_eq_true rfl, Nat.le_of_ble_eq_true rfl⟩) (fun _ h => h) hS rfl (fun locs hS => ?_)
  refine iv_eq (1) (by rw [if_pos (by omega)]) ?_
  refine iv_if_ne (tgt := 12) hx hb dX6_takeAway_5 (by decide) (by omega) (fun c_5 => ?_) (fun c_5 => by exfalso; omega)
  refine lv_aload_n hx hb dX6_takeAway_12 rfl (lv_lk hl rfl) ?_
  refine lv_iload_n hx hb dX6_takeAway_13 rfl (lv_lk hl rfl) ?_
  refine iv_iconst hx hb dX6_takeAway_14 ?_
  refine call_S (va_runV ⟨hx, hb, hml, hown, hts⟩ (m_X6_of l E ρ th rc tl pa kd nm st hi ke tx wy r 0 hr (by decide)) (cwV 2 hts (gi_V ml_X6_61 im_X6_of sl_X6_of it_X6 cd_X6_of) rfl rfl rfl (by decide +kernel) ⟨Nat.le_of_ble_eq_true rfl, Nat.le_of_ble_eq_true rfl⟩) (pR_V (q0 := 0) (ci := 6) hP hK rfl rfl) rfl rfl hl.1 rfl (lv_room (Nat.le_of_ble_eq_true rfl)) dX6_takeAway_15 ⟨Nat.le_of_ble_eq_true rfl, Nat.le_of_ble_eq_true rfl⟩) (fun _ h => h) hS rfl (fun locs hS => ?_)
  refine iv_eq (st (36 + 6 * r)) (rfl) ?_
  refine iv_if_ne (tgt := 25) hx hb dX6_takeAway_18 (by decide) (by omega) (fun c_18 => by exfalso; omega) (fun c_18 => ?_)
  refine iv_iconst hx hb dX6_takeAway_21 ?_
  refine lv_goto (tgt := 26) hx hb dX6_takeAway_22 (by decide) ?_
  refine va_put (ci := 6) (ty := .int) hx hb hts inX6 tyX6 tyX6_ok nmX6 hown hK.1 hP (dm hD rfl) hS 0 rfl rfl 0 (by decide) (hts _ fl_X6_32) (fun _ h9 => h9) rfl (by decide +kernel) rfl rfl (Nat.le_of_ble_eq_true rfl) dX6_takeAway_26 (fun H locs hP _ hS => ?_)
  have hP : va_P E.1 vwCl (refW E ρ 2 rc tl pa kd nm st hi ke tx wy) H := hP
  refine lv_aload_n hx hb dX6_takeAway_29 rfl (lv_lk hl rfl) ?_
  refine va_get (D := E.1) (ci := 6) hx hb hts inX6 hown hK.1 hP 0 rfl rfl 0 (by decide) (hts _ fl_X6_32) (fun _ h9 => h9) rfl dX6_takeAway_30 ?_
  refine iv_if_le (tgt := 40) hx hb dX6_takeAway_33 (by decide) (by omega) (fun c_33 => by exfalso; omega) (fun c_33 => ?_)
  refine iv_iconst hx hb dX6_takeAway_36 ?_
  refine lv_goto (tgt := 48) hx hb dX6_takeAway_37 (by decide) ?_
  exact W.iret hx hb hrt (fun t ht hW => ⟨rfl, by rw [ht]; exact hP, hS.F ht⟩) hS.2.2 dX6_takeAway_48 hlocks
set_option maxHeartbeats 4000000 in
set_option maxRecDepth 100000 in
theorem m_X6_solve_ok (l : Launch) (E : Env3) (ρ : Nat → Nat) (th tl pa kd nm : Int) (st hi ke tx wy : S) (hρ : dR ρ 6) (n : Nat) (hn : n ≤ 6) (T : Int) (hI : IB T st) (r : Nat) (hr : r < 36) : Met l yX6_solve (Cond.code yX6_solve cX6_solve 2 (some .int) :: ALL) ({ frames := 6, cells := 0, slots := 0, locals := 135 }) (pR [.ref (ρ 0), .int (I (r : Int))] E (refW E ρ th ((n : Int)) tl pa kd nm st hi ke tx wy)) (qX (some (.int (I (solve1 st r).2))) E (refW E ρ th ((n : Int)) tl pa kd nm st hi ke tx wy) (fun wy => (refW E ρ 0 ((recN n : Int)) tl pa kd nm ((solve1 st r).1) (recH st hi n) ke tx wy))) 0 0 (adIn (refW E ρ th ((n : Int)) tl pa kd nm st hi ke tx wy)) := by
  refine mk_met (by decide) rfl (Nat.le_of_ble_eq_true rfl) ?_
  intro p e s m args below meth c hx hb hrt hml hts hown hlocks hnm hP hK ls hl
  have hown : s.vm.findClass RX6 = some m.cls := hown
  have hl : lv_has ls 2 [(0, .ref (ρ 0)), (1, .int (I (r : Int)))] := hl
  have hD : va_D (adIn (refW E ρ th ((n : Int)) tl pa kd nm st hi ke tx wy)) (refW E ρ th ((n : Int)) tl pa kd nm st hi ke tx wy) := D_of_dR hρ rfl
  have hS : va_S (adIn (refW E ρ th ((n : Int)) tl pa kd nm st hi ke tx wy)) s.heap s.heap [] := va_S.rf
  refine lv_aload_n hx hb dX6_solve_0 rfl (lv_lk hl rfl) ?_
  refine lv_iload_n hx hb dX6_solve_1 rfl (lv_lk hl rfl) ?_
  refine call_S (va_runS ⟨hx, hb, hml, hown, hts⟩ (m_X6_isRiddle l E ((r : Int)) (by omega)) (va_cwS 1 hts (gi_S ml_X6_64 st_X6_isRiddle it_X6 cd_X6_isRiddle) rfl rfl rfl (by decide +kernel) ⟨Nat.le_of_ble_eq_true rfl, Nat.le_of_ble_eq_true rfl⟩) (pR_S (hP.sub (ws' := []) [] rfl) hK) rfl rfl hl.1 rfl (lv_room (Nat.le_of_ble_eq_true rfl)) dX6_solve_2 ⟨Nat.le_of_ble_eq_true rfl, Nat.le_of_ble_eq_true rfl⟩) (fun _ h => h) hS rfl (fun locs hS => ?_)
  refine iv_eq (1) (by rw [if_pos (by omega)]) ?_
  refine iv_if_eq (tgt := 12) hx hb dX6_solve_5 (by decide) (by omega) (fun c_5 => by exfalso; omega) (fun c_5 => ?_)
  refine iv_iconst hx hb dX6_solve_8 ?_
  refine lv_goto (tgt := 13) hx hb dX6_solve_9 (by decide) ?_
  refine va_put (ci := 6) (ty := .int) hx hb hts inX6 tyX6 tyX6_ok nmX6 hown hK.1 hP (dm hD rfl) hS 0 rfl rfl 0 (by decide) (hts _ fl_X6_32) (fun _ h9 => h9) rfl (by decide +kernel) rfl rfl (Nat.le_of_ble_eq_true rfl) dX6_solve_13 (fun H locs hP _ hS => ?_)
  have hP : va_P E.1 vwCl (refW E ρ 0 ((n : Int)) tl pa kd nm st hi ke tx wy) H := hP
  refine lv_aload_n hx hb dX6_solve_16 rfl (lv_lk hl rfl) ?_
  refine va_get (D := E.1) (ci := 6) hx hb hts inX6 hown hK.1 hP 0 rfl rfl 0 (by decide) (hts _ fl_X6_32) (fun _ h9 => h9) rfl dX6_solve_17 ?_
  refine iv_if_le (tgt := 25) hx hb dX6_solve_20 (by decide) (by omega) (fun c_20 => ?_) (fun c_20 => by exfalso; omega)
  refine lv_aload_n hx hb dX6_solve_25 rfl (lv_lk hl rfl) ?_
  refine call_F (va_runV ⟨hx, hb, hml, hown, hts⟩ (m_X6_record l E ρ 0 tl pa kd nm st hi ke tx wy hρ n hn) (cwV 0 hts (gi_V ml_X6_47 im_X6_record sl_X6_record it_X6 cd_X6_record) rfl rfl rfl (by decide +kernel) ⟨Nat.le_of_ble_eq_true rfl, Nat.le_of_ble_eq_true rfl⟩) (pR_V (q0 := 0) (ci := 6) hP hK rfl rfl) rfl rfl hl.1 rfl (lv_room (Nat.le_of_ble_eq_true rfl)) dX6_solve_26 ⟨Nat.le_of_ble_eq_true rfl, Nat.le_of_ble_eq_true rfl⟩) (dm hD rfl) hS rfl (fun H locs hP hS => ?_)
  have hP : va_P E.1 vwCl (refW E ρ 0 ((recN n : Int)) tl pa kd nm st (recH st hi n) ke tx wy) H := hP
  refine lv_aload_n hx hb dX6_solve_29 rfl (lv_lk hl rfl) ?_
  refine lv_iload_n hx hb dX6_solve_30 rfl (lv_lk hl rfl) ?_
  refine call_X (va_runV ⟨hx, hb, hml, hown, hts⟩ (m_X6_solvesFirst l E ρ 0 ((recN n : Int)) tl pa kd nm st (recH st hi n) ke tx wy hρ T hI r hr) (cwV 1 hts (gi_V ml_X6_85 im_X6_solvesFirst sl_X6_solvesFirst it_X6 cd_X6_solvesFirst) rfl rfl rfl (by decide +kernel) ⟨Nat.le_of_ble_eq_true rfl, Nat.le_of_ble_eq_true rfl⟩) (pR_V (q0 := 0) (ci := 6) hP hK rfl rfl) rfl rfl hl.1 rfl (lv_room (Nat.le_of_ble_eq_true rfl)) dX6_solve_31 ⟨Nat.le_of_ble_eq_true rfl, Nat.le_of_ble_eq_true rfl⟩) (dm hD rfl) hS rfl (fun wy1 H locs hP hS => ?_)
  have hP : va_P E.1 vwCl (refW E ρ 0 ((recN n : Int)) tl pa kd nm ((solve1 st r).1) (recH st hi n) ke tx wy1) H := hP
  exact W.iret hx hb hrt (fun t ht hW => ⟨rfl, ⟨wy1, by rw [ht]; exact hP⟩, hS.F ht⟩) hS.2.2 dX6_solve_34 hlocks
set_option maxHeartbeats 4000000 in
set_option maxRecDepth 100000 in
theorem m_X6_solve_bad (l : Launch) (E : Env3) (ρ : Nat → Nat) (th rc tl pa kd nm : Int) (st hi ke tx wy : S) (hρ : dR ρ 6) (r : Int) (hr : -2147483648 ≤ r ∧ r ≤ 2147483647) (h1 : ¬ (0 ≤ r ∧ r ≤ 35)) : Met l yX6_solve (Cond.code yX6_solve cX6_solve 2 (some .int) :: ALL) ({ frames := 6, cells := 0, slots := 0, locals := 135 }) (pR [.ref (ρ 0), .int (I r)] E (refW E ρ th rc tl pa kd nm st hi ke tx wy)) (qW (some (.int (I 0))) E (refW E ρ th rc tl pa kd nm st hi ke tx wy) (refW E ρ 1 rc tl pa kd nm st hi ke tx wy)) 0 0 (adIn (refW E ρ th rc tl pa kd nm st hi ke tx wy)) := by
  refine mk_met (by decide) rfl (Nat.le_of_ble_eq_true rfl) ?_
  intro p e s m args below meth c hx hb hrt hml hts hown hlocks hnm hP hK ls hl
  have hown : s.vm.findClass RX6 = some m.cls := hown
  have hl : lv_has ls 2 [(0, .ref (ρ 0)), (1, .int (I r))] := hl
  have hD : va_D (adIn (refW E ρ th rc tl pa kd nm st hi ke tx wy)) (refW E ρ th rc tl pa kd nm st hi ke tx wy) := D_of_dR hρ rfl
  have hS : va_S (adIn (refW E ρ th rc tl pa kd nm st hi ke tx wy)) s.heap s.heap [] := va_S.rf
  refine lv_aload_n hx hb dX6_solve_0 rfl (lv_lk hl rfl) ?_
  refine lv_iload_n hx hb dX6_solve_1 rfl (lv_lk hl rfl) ?_
  refine call_S (va_runS ⟨hx, hb, hml, hown, hts⟩ (m_X6_isRiddle l E r (by omega)) (va_cwS 1 hts (gi_S ml_X6_64 st_X6_isRiddle it_X6 cd_X6_isRiddle) rfl rfl rfl (by decide +kernel) ⟨Nat.le_of_ble_eq_true rfl, Nat.le_of_ble_eq_true rfl⟩) (pR_S (hP.sub (ws' := []) [] rfl) hK) rfl rfl hl.1 rfl (lv_room (Nat.le_of_ble_eq_true rfl)) dX6_solve_2 ⟨Nat.le_of_ble_eq_true rfl, Nat.le_of_ble_eq_true rfl⟩) (fun _ h => h) hS rfl (fun locs hS => ?_)
  refine iv_eq (0) (by rw [if_neg (by omega)]) ?_
  refine iv_if_eq (tgt := 12) hx hb dX6_solve_5 (by decide) (by omega) (fun c_5 => ?_) (fun c_5 => by exfalso; omega)
  refine iv_iconst hx hb dX6_solve_12 ?_
  refine va_put (ci := 6) (ty := .int) hx hb hts inX6 tyX6 tyX6_ok nmX6 hown hK.1 hP (dm hD rfl) hS 0 rfl rfl 0 (by decide) (hts _ fl_X6_32) (fun _ h9 => h9) rfl (by decide +kernel) rfl rfl (Nat.le_of_ble_eq_true rfl) dX6_solve_13 (fun H locs hP _ hS => ?_)
  have hP : va_P E.1 vwCl (refW E ρ 1 rc tl pa kd nm st hi ke tx wy) H := hP
  refine lv_aload_n hx hb dX6_solve_16 rfl (lv_lk hl rfl) ?_
  refine va_get (D := E.1) (ci := 6) hx hb hts inX6 hown hK.1 hP 0 rfl rfl 0 (by decide) (hts _ fl_X6_32) (fun _ h9 => h9) rfl dX6_solve_17 ?_
  refine iv_if_le (tgt := 25) hx hb dX6_solve_20 (by decide) (by omega) (fun c_20 => by exfalso; omega) (fun c_20 => ?_)
  refine iv_iconst hx hb dX6_solve_23 ?_
  exact W.iret hx hb hrt (fun t ht hW => ⟨rfl, by rw [ht]; exact hP, hS.F ht⟩) hS.2.2 dX6_solve_24 hlocks
set_option maxHeartbeats 4000000 in
set_option maxRecDepth 100000 in
theorem m_X6_forget_ok (l : Launch) (E : Env3) (ρ : Nat → Nat) (th tl pa kd nm : Int) (st hi ke tx wy : S) (hρ : dR ρ 6) (n : Nat) (hn : n ≤ 6) (r : Nat) (hr : r < 36) (hk9 : -2147483648 ≤ st (36 + 6 * r + 3) ∧ st (36 + 6 * r + 3) ≤ 2147483647) (hk8 : ¬ st (36 + 6 * r + 3) = 0) : Met l yX6_forget (Cond.code yX6_forget cX6_forget 3 (some .int) :: ALL) ({ frames := 2, cells := 0, slots := 0, locals := 45 }) (pR [.ref (ρ 0), .int (I (r : Int))] E (refW E ρ th ((n : Int)) tl pa kd nm st hi ke tx wy)) (qW (some (.int (I (st (36 + 6 * r + 3))))) E (refW E ρ th ((n : Int)) tl pa kd nm st hi ke tx wy) (refW E ρ 0 ((recN n : Int)) tl pa kd nm (forg st r) (recH st hi n) ke tx wy)) 0 0 (adIn (refW E ρ th ((n : Int)) tl pa kd nm st hi ke tx wy)) := by
  refine mk_met (by decide) rfl (Nat.le_of_ble_eq_true rfl) ?_
  intro p e s m args below meth c hx hb hrt hml hts hown hlocks hnm hP hK ls hl
  have hown : s.vm.findClass RX6 = some m.cls := hown
  have hl : lv_has ls 3 [(0, .ref (ρ 0)), (1, .int (I (r : Int)))] := hl
  have hD : va_D (adIn (refW E ρ th ((n : Int)) tl pa kd nm st hi ke tx wy)) (refW E ρ th ((n : Int)) tl pa kd nm st hi ke tx wy) := D_of_dR hρ rfl
  have hS : va_S (adIn (refW E ρ th ((n : Int)) tl pa kd nm st hi ke tx wy)) s.heap s.heap [] := va_S.rf
  refine lv_aload_n hx hb dX6_forget_0 rfl (lv_lk hl rfl) ?_
  refine lv_iload_n hx hb dX6_forget_1 rfl (lv_lk hl rfl) ?_
  refine call_S (va_runS ⟨hx, hb, hml, hown, hts⟩ (m_X6_isRiddle l E ((r : Int)) (by omega)) (va_cwS 1 hts (gi_S ml_X6_64 st_X6_isRiddle it_X6 cd_X6_isRiddle) rfl rfl rfl (by decide +kernel) ⟨Nat.le_of_ble_eq_true rfl, Nat.le_of_ble_eq_true rfl⟩) (pR_S (hP.sub (ws' := []) [] rfl) hK) rfl rfl hl.1 rfl (lv_room (Nat.le_of_ble_eq_true rfl)) dX6_forget_2 ⟨Nat.le_of_ble_eq_true rfl, Nat.le_of_ble_eq_true rfl⟩) (fun _ h => h) hS rfl (fun locs hS => ?_)
  refine iv_eq (1) (by rw [if_pos (by omega)]) ?_
  refine iv_if_ne (tgt := 12) hx hb dX6_forget_5 (by decide) (by omega) (fun c_5 => ?_) (fun c_5 => by exfalso; omega)
  refine lv_aload_n hx hb dX6_forget_12 rfl (lv_lk hl rfl) ?_
  refine lv_iload_n hx hb dX6_forget_13 rfl (lv_lk hl rfl) ?_
  refine iv_iconst hx hb dX6_forget_14 ?_
  refine call_S (va_runV ⟨hx, hb, hml, hown, hts⟩ (m_X6_of l E ρ th ((n : Int)) tl pa kd nm st hi ke tx wy r 3 hr (by decide)) (cwV 2 hts (gi_V ml_X6_61 im_X6_of sl_X6_of it_X6 cd_X6_of) rfl rfl rfl (by decide +kernel) ⟨Nat.le_of_ble_eq_true rfl, Nat.le_of_ble_eq_true rfl⟩) (pR_V (q0 := 0) (ci := 6) hP hK rfl rfl) rfl rfl hl.1 rfl (lv_room (Nat.le_of_ble_eq_true rfl)) dX6_forget_15 ⟨Nat.le_of_ble_eq_true rfl, Nat.le_of_ble_eq_true rfl⟩) (fun _ h => h) hS rfl (fun locs hS => ?_)
  refine iv_if_ne (tgt := 25) hx hb dX6_forget_18 (by decide) (by omega) (fun c_18 => ?_) (fun c_18 => by exfalso; omega)
  refine iv_iconst hx hb dX6_forget_25 ?_
  refine va_put (ci := 6) (ty := .int) hx hb hts inX6 tyX6 tyX6_ok nmX6 hown hK.1 hP (dm hD rfl) hS 0 rfl rfl 0 (by decide) (hts _ fl_X6_32) (fun _ h9 => h9) rfl (by decide +kernel) rfl rfl (Nat.le_of_ble_eq_true rfl) dX6_forget_26 (fun H locs hP _ hS => ?_)
  have hP : va_P E.1 vwCl (refW E ρ 0 ((n : Int)) tl pa kd nm st hi ke tx wy) H := hP
  refine lv_aload_n hx hb dX6_forget_29 rfl (lv_lk hl rfl) ?_
  refine va_get (D := E.1) (ci := 6) hx hb hts inX6 hown hK.1 hP 0 rfl rfl 0 (by decide) (hts _ fl_X6_32) (fun _ h9 => h9) rfl dX6_forget_30 ?_
  refine iv_if_le (tgt := 38) hx hb dX6_forget_33 (by decide) (by omega) (fun c_33 => ?_) (fun c_33 => by exfalso; omega)
  refine lv_aload_n hx hb dX6_forget_38 rfl (lv_lk hl rfl) ?_
  refine call_F (va_runV ⟨hx, hb, hml, hown, hts⟩ (m_X6_record l E ρ 0 tl pa kd nm st hi ke tx wy hρ n hn) (cwV 0 hts (gi_V ml_X6_47 im_X6_record sl_X6_record it_X6 cd_X6_record) rfl rfl rfl (by decide +kernel) ⟨Nat.le_of_ble_eq_true rfl, Nat.le_of_ble_eq_true rfl⟩) (pR_V (q0 := 0) (ci := 6) hP hK rfl rfl) rfl rfl hl.1 rfl (lv_room (Nat.le_of_ble_eq_true rfl)) dX6_forget_39 ⟨Nat.le_of_ble_eq_true rfl, Nat.le_of_ble_eq_true rfl⟩) (dm hD rfl) hS rfl (fun H locs hP hS => ?_)
  have hP : va_P E.1 vwCl (refW E ρ 0 ((recN n : Int)) tl pa kd nm st (recH st hi n) ke tx wy) H := hP
  refine lv_aload_n hx hb dX6_forget_42 rfl (lv_lk hl rfl) ?_
  refine lv_iload_n hx hb dX6_forget_43 rfl (lv_lk hl rfl) ?_
  refine iv_iconst hx hb dX6_forget_44 ?_
  refine call_S (va_runV ⟨hx, hb, hml, hown, hts⟩ (m_X6_of l E ρ 0 ((recN n : Int)) tl pa kd nm st (recH st hi n) ke tx wy r 3 hr (by decide)) (cwV 2 hts (gi_V ml_X6_61 im_X6_of sl_X6_of it_X6 cd_X6_of) rfl rfl rfl (by decide +kernel) ⟨Nat.le_of_ble_eq_true rfl, Nat.le_of_ble_eq_true rfl⟩) (pR_V (q0 := 0) (ci := 6) hP hK rfl rfl) rfl rfl hl.1 rfl (lv_room (Nat.le_of_ble_eq_true rfl)) dX6_forget_45 ⟨Nat.le_of_ble_eq_true rfl, Nat.le_of_ble_eq_true rfl⟩) (fun _ h => h) hS rfl (fun locs hS => ?_)
  refine lv_istore_n (lv' := [(2, .int (I _)), (0, .ref _), (1, .int (I _))]) hx hb dX6_forget_48 rfl hl (by decide) rfl (fun ls hl => ?_)
  refine lv_aload_n hx hb dX6_forget_49 rfl (lv_lk hl rfl) ?_
  refine lv_iload_n hx hb dX6_forget_50 rfl (lv_lk hl rfl) ?_
  refine call_F (va_runV ⟨hx, hb, hml, hown, hts⟩ (m_X6_forgets l E ρ 0 ((recN n : Int)) tl pa kd nm st (recH st hi n) ke tx wy hρ r hr) (cwV 1 hts (gi_V ml_X6_88 im_X6_forgets sl_X6_forgets it_X6 cd_X6_forgets) rfl rfl rfl (by decide +kernel) ⟨Nat.le_of_ble_eq_true rfl, Nat.le_of_ble_eq_true rfl⟩) (pR_V (q0 := 0) (ci := 6) hP hK rfl rfl) rfl rfl hl.1 rfl (lv_room (Nat.le_of_ble_eq_true rfl)) dX6_forget_51 ⟨Nat.le_of_ble_eq_true rfl, Nat.le_of_ble_eq_true rfl⟩) (dm hD rfl) hS rfl (fun H locs hP hS => ?_)
  have hP : va_P E.1 vwCl (refW E ρ 0 ((recN n : Int)) tl pa kd nm (forg st r) (recH st hi n) ke tx wy) H := hP
  refine lv_iload_n hx hb dX6_forget_54 rfl (lv_lk hl rfl) ?_
  exact W.iret hx hb hrt (fun t ht hW => ⟨rfl, by rw [ht]; exact hP, hS.F ht⟩) hS.2.2 dX6_forget_55 hlocks
set_option maxHeartbeats 4000000 in
set_option maxRecDepth 100000 in
theorem m_X6_forget_bad1 (l : Launch) (E : Env3) (ρ : Nat → Nat) (th rc tl pa kd nm : Int) (st hi ke tx wy : S) (hρ : dR ρ 6) (r : Int) (hr : -2147483648 ≤ r ∧ r ≤ 2147483647) (h1 : ¬ (0 ≤ r ∧ r ≤ 35)) : Met l yX6_forget (Cond.code yX6_forget cX6_forget 3 (some .int) :: ALL) ({ frames := 2, cells := 0, slots := 0, locals := 45 }) (pR [.ref (ρ 0), .int (I r)] E (refW E ρ th rc tl pa kd nm st hi ke tx wy)) (qW (some (.int (I 0))) E (refW E ρ th rc tl pa kd nm st hi ke tx wy) (refW E ρ 1 rc tl pa kd nm st hi ke tx wy)) 0 0 (adIn (refW E ρ th rc tl pa kd nm st hi ke tx wy)) := by
  refine mk_met (by decide) rfl (Nat.le_of_ble_eq_true rfl) ?_
  intro p e s m args below meth c hx hb hrt hml hts hown hlocks hnm hP hK ls hl
  have hown : s.vm.findClass RX6 = some m.cls := hown
  have hl : lv_has ls 3 [(0, .ref (ρ 0)), (1, .int (I r))] := hl
  have hD : va_D (adIn (refW E ρ th rc tl pa kd nm st hi ke tx wy)) (refW E ρ th rc tl pa kd nm st hi ke tx wy) := D_of_dR hρ rfl
  have hS : va_S (adIn (refW E ρ th rc tl pa kd nm st hi ke tx wy)) s.heap s.heap [] := va_S.rf
  refine lv_aload_n hx hb dX6_forget_0 rfl (lv_lk hl rfl) ?_
  refine lv_iload_n hx hb dX6_forget_1 rfl (lv_lk hl rfl) ?_
  refine call_S (va_runS ⟨hx, hb, hml, hown, hts⟩ (m_X6_isRiddle l E r (by omega)) (va_cwS 1 hts (gi_S ml_X6_64 st_X6_isRiddle it_X6 cd_X6_isRiddle) rfl rfl rfl (by decide +kernel) ⟨Nat.le_of_ble_eq_true rfl, Nat.le_of_ble_eq_true rfl⟩) (pR_S (hP.sub (ws' := []) [] rfl) hK) rfl rfl hl.1 rfl (lv_room (Nat.le_of_ble_eq_true rfl)) dX6_forget_2 ⟨Nat.le_of_ble_eq_true rfl, Nat.le_of_ble_eq_true rfl⟩) (fun _ h => h) hS rfl (fun locs hS => ?_)
  refine iv_eq (0) (by rw [if_neg (by omega)]) ?_
  refine iv_if_ne (tgt := 12) hx hb dX6_forget_5 (by decide) (by omega) (fun c_5 => by exfalso; omega) (fun c_5 => ?_)
  refine iv_iconst hx hb dX6_forget_8 ?_
  refine lv_goto (tgt := 26) hx hb dX6_forget_9 (by decide) ?_
  refine va_put (ci := 6) (ty := .int) hx hb hts inX6 tyX6 tyX6_ok nmX6 hown hK.1 hP (dm hD rfl) hS 0 rfl rfl 0 (by decide) (hts _ fl_X6_32) (fun _ h9 => h9) rfl (by decide +kernel) rfl rfl (Nat.le_of_ble_eq_true rfl) dX6_forget_26 (fun H locs hP _ hS => ?_)
  have hP : va_P E.1 vwCl (refW E ρ 1 rc tl pa kd nm st hi ke tx wy) H := hP
  refine lv_aload_n hx hb dX6_forget_29 rfl (lv_lk hl rfl) ?_
  refine va_get (D := E.1) (ci := 6) hx hb hts inX6 hown hK.1 hP 0 rfl rfl 0 (by decide) (hts _ fl_X6_32) (fun _ h9 => h9) rfl dX6_forget_30 ?_
  refine iv_if_le (tgt := 38) hx hb dX6_forget_33 (by decide) (by omega) (fun c_33 => by exfalso; omega) (fun c_33 => ?_)
  refine iv_iconst hx hb dX6_forget_36 ?_
  exact W.iret hx hb hrt (fun t ht hW => ⟨rfl, by rw [ht]; exact hP, hS.F ht⟩) hS.2.2 dX6_forget_37 hlocks
set_option maxHeartbeats 4000000 in
set_option maxRecDepth 100000 in
theorem m_X6_forget_bad2 (l : Launch) (E : Env3) (ρ : Nat → Nat) (th rc tl pa kd nm : Int) (st hi ke tx wy : S) (hρ : dR ρ 6) (r : Nat) (hr : r < 36) (hk8 : st (36 + 6 * r + 3) = 0) : Met l yX6_forget (Cond.code yX6_forget cX6_forget 3 (some .int) :: ALL) ({ frames := 2, cells := 0, slots := 0, locals := 45 }) (pR [.ref (ρ 0), .int (I (r : Int))] E (refW E ρ th rc tl pa kd nm st hi ke tx wy)) (qW (some (.int (I 0))) E (refW E ρ th rc tl pa kd nm st hi ke tx wy) (refW E ρ 2 rc tl pa kd nm st hi ke tx wy)) 0 0 (adIn (refW E ρ th rc tl pa kd nm st hi ke tx wy)) := by
  refine mk_met (by decide) rfl (Nat.le_of_ble_eq_true rfl) ?_
  intro p e s m args below meth c hx hb hrt hml hts hown hlocks hnm hP hK ls hl
  have hown : s.vm.findClass RX6 = some m.cls := hown
  have hl : lv_has ls 3 [(0, .ref (ρ 0)), (1, .int (I (r : Int)))] := hl
  have hD : va_D (adIn (refW E ρ th rc tl pa kd nm st hi ke tx wy)) (refW E ρ th rc tl pa kd nm st hi ke tx wy) := D_of_dR hρ rfl
  have hS : va_S (adIn (refW E ρ th rc tl pa kd nm st hi ke tx wy)) s.heap s.heap [] := va_S.rf
  refine lv_aload_n hx hb dX6_forget_0 rfl (lv_lk hl rfl) ?_
  refine lv_iload_n hx hb dX6_forget_1 rfl (lv_lk hl rfl) ?_
  refine call_S (va_runS ⟨hx, hb, hml, hown, hts⟩ (m_X6_isRiddle l E ((r : Int)) (by omega)) (va_cwS 1 hts (gi_S ml_X6_64 st_X6_isRiddle it_X6 cd_X6_isRiddle) rfl rfl rfl (by decide +kernel) ⟨Nat.le_of_ble_eq_true rfl, Nat.le_of_ble_eq_true rfl⟩) (pR_S (hP.sub (ws' := []) [] rfl) hK) rfl rfl hl.1 rfl (lv_room (Nat.le_of_ble_eq_true rfl)) dX6_forget_2 ⟨Nat.le_of_ble_eq_true rfl, Nat.le_of_ble_eq_true rfl⟩) (fun _ h => h) hS rfl (fun locs hS => ?_)
  refine iv_eq (1) (by rw [if_pos (by omega)]) ?_
  refine iv_if_ne (tgt := 12) hx hb dX6_forget_5 (by decide) (by omega) (fun c_5 => ?_) (fun c_5 => by exfalso; omega)
  refine lv_aload_n hx hb dX6_forget_12 rfl (lv_lk hl rfl) ?_
  refine lv_iload_n hx hb dX6_forget_13 rfl (lv_lk hl rfl) ?_
  refine iv_iconst hx hb dX6_forget_14 ?_
  refine call_S (va_runV ⟨hx, hb, hml, hown, hts⟩ (m_X6_of l E ρ th rc tl pa kd nm st hi ke tx wy r 3 hr (by decide)) (cwV 2 hts (gi_V ml_X6_61 im_X6_of sl_X6_of it_X6 cd_X6_of) rfl rfl rfl (by decide +kernel) ⟨Nat.le_of_ble_eq_true rfl, Nat.le_of_ble_eq_true rfl⟩) (pR_V (q0 := 0) (ci := 6) hP hK rfl rfl) rfl rfl hl.1 rfl (lv_room (Nat.le_of_ble_eq_true rfl)) dX6_forget_15 ⟨Nat.le_of_ble_eq_true rfl, Nat.le_of_ble_eq_true rfl⟩) (fun _ h => h) hS rfl (fun locs hS => ?_)
  refine iv_if_ne (tgt := 25) hx hb dX6_forget_18 (by decide) (by omega) (fun c_18 => by exfalso; omega) (fun c_18 => ?_)
  refine iv_iconst hx hb dX6_forget_21 ?_
  refine lv_goto (tgt := 26) hx hb dX6_forget_22 (by decide) ?_
  refine va_put (ci := 6) (ty := .int) hx hb hts inX6 tyX6 tyX6_ok nmX6 hown hK.1 hP (dm hD rfl) hS 0 rfl rfl 0 (by decide) (hts _ fl_X6_32) (fun _ h9 => h9) rfl (by decide +kernel) rfl rfl (Nat.le_of_ble_eq_true rfl) dX6_forget_26 (fun H locs hP _ hS => ?_)
  have hP : va_P E.1 vwCl (refW E ρ 2 rc tl pa kd nm st hi ke tx wy) H := hP
  refine lv_aload_n hx hb dX6_forget_29 rfl (lv_lk hl rfl) ?_
  refine va_get (D := E.1) (ci := 6) hx hb hts inX6 hown hK.1 hP 0 rfl rfl 0 (by decide) (hts _ fl_X6_32) (fun _ h9 => h9) rfl dX6_forget_30 ?_
  refine iv_if_le (tgt := 38) hx hb dX6_forget_33 (by decide) (by omega) (fun c_33 => by exfalso; omega) (fun c_33 => ?_)
  refine iv_iconst hx hb dX6_forget_36 ?_
  exact W.iret hx hb hrt (fun t ht hW => ⟨rfl, by rw [ht]; exact hP, hS.F ht⟩) hS.2.2 dX6_forget_37 hlocks
set_option maxHeartbeats 4000000 in
set_option maxRecDepth 100000 in
theorem m_X6_pass_ok (l : Launch) (E : Env3) (ρ : Nat → Nat) (th tl pa kd nm : Int) (st hi ke tx wy : S) (hρ : dR ρ 6) (n : Nat) (hn : n ≤ 6) (T : Int) (hI : IB T st) (t : Int) (ht : 1 ≤ t ∧ t ≤ 99) (hT : T ≤ 99900) (h8 : st 0 + t ≤ 9999) : Met l yX6_pass (Cond.code yX6_pass cX6_pass 2 (some .int) :: ALL) ({ frames := 3, cells := 0, slots := 0, locals := 67 }) (pR [.ref (ρ 0), .int (I t)] E (refW E ρ th ((n : Int)) tl pa kd nm st hi ke tx wy)) (qW (some (.int (I (passes st t 5 - st 5)))) E (refW E ρ th ((n : Int)) tl pa kd nm st hi ke tx wy) (refW E ρ 0 ((recN n : Int)) tl pa kd nm (passes st t) (recH st hi n) ke tx wy)) 0 0 (adIn (refW E ρ th ((n : Int)) tl pa kd nm st hi ke tx wy)) := by
  refine mk_met (by decide) rfl (Nat.le_of_ble_eq_true rfl) ?_
  intro p e s m args below meth c hx hb hrt hml hts hown hlocks hnm hP hK ls hl
  have hown : s.vm.findClass RX6 = some m.cls := hown
  have hl : lv_has ls 2 [(0, .ref (ρ 0)), (1, .int (I t))] := hl
  have hD : va_D (adIn (refW E ρ th ((n : Int)) tl pa kd nm st hi ke tx wy)) (refW E ρ th ((n : Int)) tl pa kd nm st hi ke tx wy) := D_of_dR hρ rfl
  have hS : va_S (adIn (refW E ρ th ((n : Int)) tl pa kd nm st hi ke tx wy)) s.heap s.heap [] := va_S.rf
  have h09 := hI.1
  refine lv_aload_n hx hb dX6_pass_0 rfl (lv_lk hl rfl) ?_
  refine lv_iload_n hx hb dX6_pass_1 rfl (lv_lk hl rfl) ?_
  refine iv_iconst hx hb dX6_pass_2 ?_
  refine iv_bipush hx hb dX6_pass_3 (by decide +kernel) ?_
  refine call_S (va_runS ⟨hx, hb, hml, hown, hts⟩ (m_X6_within l E t 1 99 (by omega) (by omega) (by omega)) (va_cwS 3 hts (gi_S ml_X6_43 st_X6_within it_X6 cd_X6_within) rfl rfl rfl (by decide +kernel) ⟨Nat.le_of_ble_eq_true rfl, Nat.le_of_ble_eq_true rfl⟩) (pR_S (hP.sub (ws' := []) [] rfl) hK) rfl rfl hl.1 rfl (lv_room (Nat.le_of_ble_eq_true rfl)) dX6_pass_5 ⟨Nat.le_of_ble_eq_true rfl, Nat.le_of_ble_eq_true rfl⟩) (fun _ h => h) hS rfl (fun locs hS => ?_)
  refine iv_eq (1) (by rw [if_pos (by omega)]) ?_
  refine iv_if_ne (tgt := 15) hx hb dX6_pass_8 (by decide) (by omega) (fun c_8 => ?_) (fun c_8 => by exfalso; omega)
  refine lv_aload_n hx hb dX6_pass_15 rfl (lv_lk hl rfl) ?_
  refine va_get (D := E.1) (ci := 6) hx hb hts inX6 hown hK.1 hP 0 rfl rfl 1 (by decide) (hts _ fl_X6_7) (fun _ h9 => h9) rfl dX6_pass_16 ?_
  refine iv_iconst hx hb dX6_pass_19 ?_
  refine iv_iald hx hb hK hP 1 rfl (0) (by omega) (by omega) dX6_pass_20 ?_
  refine lv_iload_n hx hb dX6_pass_21 rfl (lv_lk hl rfl) ?_
  refine iv_iadd hx hb dX6_pass_22 ?_
  refine iv_sipush hx hb dX6_pass_23 (by decide +kernel) ?_
  refine iv_icmp_le (tgt := 33) hx hb dX6_pass_26 (by decide) (by omega) (by omega) (fun c_26 => ?_) (fun c_26 => by exfalso; omega)
  refine iv_iconst hx hb dX6_pass_33 ?_
  refine va_put (ci := 6) (ty := .int) hx hb hts inX6 tyX6 tyX6_ok nmX6 hown hK.1 hP (dm hD rfl) hS 0 rfl rfl 0 (by decide) (hts _ fl_X6_32) (fun _ h9 => h9) rfl (by decide +kernel) rfl rfl (Nat.le_of_ble_eq_true rfl) dX6_pass_34 (fun H locs hP _ hS => ?_)
  have hP : va_P E.1 vwCl (refW E ρ 0 ((n : Int)) tl pa kd nm st hi ke tx wy) H := hP
  refine lv_aload_n hx hb dX6_pass_37 rfl (lv_lk hl rfl) ?_
  refine va_get (D := E.1) (ci := 6) hx hb hts inX6 hown hK.1 hP 0 rfl rfl 0 (by decide) (hts _ fl_X6_32) (fun _ h9 => h9) rfl dX6_pass_38 ?_
  refine iv_if_le (tgt := 46) hx hb dX6_pass_41 (by decide) (by omega) (fun c_41 => ?_) (fun c_41 => by exfalso; omega)
  refine lv_aload_n hx hb dX6_pass_46 rfl (lv_lk hl rfl) ?_
  refine call_F (va_runV ⟨hx, hb, hml, hown, hts⟩ (m_X6_record l E ρ 0 tl pa kd nm st hi ke tx wy hρ n hn) (cwV 0 hts (gi_V ml_X6_47 im_X6_record sl_X6_record it_X6 cd_X6_record) rfl rfl rfl (by decide +kernel) ⟨Nat.le_of_ble_eq_true rfl, Nat.le_of_ble_eq_true rfl⟩) (pR_V (q0 := 0) (ci := 6) hP hK rfl rfl) rfl rfl hl.1 rfl (lv_room (Nat.le_of_ble_eq_true rfl)) dX6_pass_47 ⟨Nat.le_of_ble_eq_true rfl, Nat.le_of_ble_eq_true rfl⟩) (dm hD rfl) hS rfl (fun H locs hP hS => ?_)
  have hP : va_P E.1 vwCl (refW E ρ 0 ((recN n : Int)) tl pa kd nm st (recH st hi n) ke tx wy) H := hP
  refine lv_aload_n hx hb dX6_pass_50 rfl (lv_lk hl rfl) ?_
  refine lv_iload_n hx hb dX6_pass_51 rfl (lv_lk hl rfl) ?_
  refine call_F (va_runV ⟨hx, hb, hml, hown, hts⟩ (m_X6_passes l E ρ 0 ((recN n : Int)) tl pa kd nm st (recH st hi n) ke tx wy hρ T hI t (by omega)) (cwV 1 hts (gi_V ml_X6_91 im_X6_passes sl_X6_passes it_X6 cd_X6_passes) rfl rfl rfl (by decide +kernel) ⟨Nat.le_of_ble_eq_true rfl, Nat.le_of_ble_eq_true rfl⟩) (pR_V (q0 := 0) (ci := 6) hP hK rfl rfl) rfl rfl hl.1 rfl (lv_room (Nat.le_of_ble_eq_true rfl)) dX6_pass_52 ⟨Nat.le_of_ble_eq_true rfl, Nat.le_of_ble_eq_true rfl⟩) (dm hD rfl) hS rfl (fun H locs hP hS => ?_)
  have hP : va_P E.1 vwCl (refW E ρ 0 ((recN n : Int)) tl pa kd nm (passes st t) (recH st hi n) ke tx wy) H := hP
  exact W.iret hx hb hrt (fun t ht hW => ⟨rfl, by rw [ht]; exact hP, hS.F ht⟩) hS.2.2 dX6_pass_55 hlocks
set_option maxHeartbeats 4000000 in
set_option maxRecDepth 100000 in
theorem m_X6_pass_bad1 (l : Launch) (E : Env3) (ρ : Nat → Nat) (th rc tl pa kd nm : Int) (st hi ke tx wy : S) (hρ : dR ρ 6) (t : Int) (ht : -2147483648 ≤ t ∧ t ≤ 2147483647) (h1 : ¬ (1 ≤ t ∧ t ≤ 99)) : Met l yX6_pass (Cond.code yX6_pass cX6_pass 2 (some .int) :: ALL) ({ frames := 3, cells := 0, slots := 0, locals := 67 }) (pR [.ref (ρ 0), .int (I t)] E (refW E ρ th rc tl pa kd nm st hi ke tx wy)) (qW (some (.int (I 0))) E (refW E ρ th rc tl pa kd nm st hi ke tx wy) (refW E ρ 1 rc tl pa kd nm st hi ke tx wy)) 0 0 (adIn (refW E ρ th rc tl pa kd nm st hi ke tx wy)) := by
  refine mk_met (by decide) rfl (Nat.le_of_ble_eq_true rfl) ?_
  intro p e s m args below meth c hx hb hrt hml hts hown hlocks hnm hP hK ls hl
  have hown : s.vm.findClass RX6 = some m.cls := hown
  have hl : lv_has ls 2 [(0, .ref (ρ 0)), (1, .int (I t))] := hl
  have hD : va_D (adIn (refW E ρ th rc tl pa kd nm st hi ke tx wy)) (refW E ρ th rc tl pa kd nm st hi ke tx wy) := D_of_dR hρ rfl
  have hS : va_S (adIn (refW E ρ th rc tl pa kd nm st hi ke tx wy)) s.heap s.heap [] := va_S.rf
  refine lv_aload_n hx hb dX6_pass_0 rfl (lv_lk hl rfl) ?_
  refine lv_iload_n hx hb dX6_pass_1 rfl (lv_lk hl rfl) ?_
  refine iv_iconst hx hb dX6_pass_2 ?_
  refine iv_bipush hx hb dX6_pass_3 (by decide +kernel) ?_
  refine call_S (va_runS ⟨hx, hb, hml, hown, hts⟩ (m_X6_within l E t 1 99 (by omega) (by omega) (by omega)) (va_cwS 3 hts (gi_S ml_X6_43 st_X6_within it_X6 cd_X6_within) rfl rfl rfl (by decide +kernel) ⟨Nat.le_of_ble_eq_true rfl, Nat.le_of_ble_eq_true rfl⟩) (pR_S (hP.sub (ws' := []) [] rfl) hK) rfl rfl hl.1 rfl (lv_room (Nat.le_of_ble_eq_true rfl)) dX6_pass_5 ⟨Nat.le_of_ble_eq_true rfl, Nat.le_of_ble_eq_true rfl⟩) (fun _ h => h) hS rfl (fun locs hS => ?_)
  refine iv_eq (0) (by rw [if_neg (by omega)]) ?_
  refine iv_if_ne (tgt := 15) hx hb dX6_pass_8 (by decide) (by omega) (fun c_8 => by exfalso; omega) (fun c_8 => ?_)
  refine iv_iconst hx hb dX6_pass_11 ?_
  refine lv_goto (tgt := 34) hx hb dX6_pass_12 (by decide) ?_
  refine va_put (ci := 6) (ty := .int) hx hb hts inX6 tyX6 tyX6_ok nmX6 hown hK.1 hP (dm hD rfl) hS 0 rfl rfl 0 (by decide) (hts _ fl_X6_32) (fun _ h9 => h9) rfl (by decide +kernel) rfl rfl (Nat.le_of_ble_eq_true rfl) dX6_pass_34 (fun H locs hP _ hS => ?_)
  have hP : va_P E.1 vwCl (refW E ρ 1 rc tl pa kd nm st hi ke tx wy) H := hP
  refine lv_aload_n hx hb dX6_pass_37 rfl (lv_lk hl rfl) ?_
  refine va_get (D := E.1) (ci := 6) hx hb hts inX6 hown hK.1 hP 0 rfl rfl 0 (by decide) (hts _ fl_X6_32) (fun _ h9 => h9) rfl dX6_pass_38 ?_
  refine iv_if_le (tgt := 46) hx hb dX6_pass_41 (by decide) (by omega) (fun c_41 => by exfalso; omega) (fun c_41 => ?_)
  refine iv_iconst hx hb dX6_pass_44 ?_
  exact W.iret hx hb hrt (fun t ht hW => ⟨rfl, by rw [ht]; exact hP, hS.F ht⟩) hS.2.2 dX6_pass_45 hlocks
set_option maxHeartbeats 4000000 in
set_option maxRecDepth 100000 in
theorem m_X6_pass_bad2 (l : Launch) (E : Env3) (ρ : Nat → Nat) (th rc tl pa kd nm : Int) (st hi ke tx wy : S) (hρ : dR ρ 6) (t : Int) (ht : 1 ≤ t ∧ t ≤ 99) (h0 : 0 ≤ st 0 ∧ st 0 ≤ 100000) (h8 : ¬ st 0 + t ≤ 9999) : Met l yX6_pass (Cond.code yX6_pass cX6_pass 2 (some .int) :: ALL) ({ frames := 3, cells := 0, slots := 0, locals := 67 }) (pR [.ref (ρ 0), .int (I t)] E (refW E ρ th rc tl pa kd nm st hi ke tx wy)) (qW (some (.int (I 0))) E (refW E ρ th rc tl pa kd nm st hi ke tx wy) (refW E ρ 2 rc tl pa kd nm st hi ke tx wy)) 0 0 (adIn (refW E ρ th rc tl pa kd nm st hi ke tx wy)) := by
  refine mk_met (by decide) rfl (Nat.le_of_ble_eq_true rfl) ?_
  intro p e s m args below meth c hx hb hrt hml hts hown hlocks hnm hP hK ls hl
  have hown : s.vm.findClass RX6 = some m.cls := hown
  have hl : lv_has ls 2 [(0, .ref (ρ 0)), (1, .int (I t))] := hl
  have hD : va_D (adIn (refW E ρ th rc tl pa kd nm st hi ke tx wy)) (refW E ρ th rc tl pa kd nm st hi ke tx wy) := D_of_dR hρ rfl
  have hS : va_S (adIn (refW E ρ th rc tl pa kd nm st hi ke tx wy)) s.heap s.heap [] := va_S.rf
  refine lv_aload_n hx hb dX6_pass_0 rfl (lv_lk hl rfl) ?_
  refine lv_iload_n hx hb dX6_pass_1 rfl (lv_lk hl rfl) ?_
  refine iv_iconst hx hb dX6_pass_2 ?_
  refine iv_bipush hx hb dX6_pass_3 (by decide +kernel) ?_
  refine call_S (va_runS ⟨hx, hb, hml, hown, hts⟩ (m_X6_within l E t 1 99 (by omega) (by omega) (by omega)) (va_cwS 3 hts (gi_S ml_X6_43 st_X6_within it_X6 cd_X6_within) rfl rfl rfl (by decide +kernel) ⟨Nat.le_of_ble_eq_true rfl, Nat.le_of_ble_eq_true rfl⟩) (pR_S (hP.sub (ws' := []) [] rfl) hK) rfl rfl hl.1 rfl (lv_room (Nat.le_of_ble_eq_true rfl)) dX6_pass_5 ⟨Nat.le_of_ble_eq_true rfl, Nat.le_of_ble_eq_true rfl⟩) (fun _ h => h) hS rfl (fun locs hS => ?_)
  refine iv_eq (1) (by rw [if_pos (by omega)]) ?_
  refine iv_if_ne (tgt := 15) hx hb dX6_pass_8 (by decide) (by omega) (fun c_8 => ?_) (fun c_8 => by exfalso; omega)
  refine lv_aload_n hx hb dX6_pass_15 rfl (lv_lk hl rfl) ?_
  refine va_get (D := E.1) (ci := 6) hx hb hts inX6 hown hK.1 hP 0 rfl rfl 1 (by decide) (hts _ fl_X6_7) (fun _ h9 => h9) rfl dX6_pass_16 ?_
  refine iv_iconst hx hb dX6_pass_19 ?_
  refine iv_iald hx hb hK hP 1 rfl (0) (by omega) (by omega) dX6_pass_20 ?_
  refine lv_iload_n hx hb dX6_pass_21 rfl (lv_lk hl rfl) ?_
  refine iv_iadd hx hb dX6_pass_22 ?_
  refine iv_sipush hx hb dX6_pass_23 (by decide +kernel) ?_
  refine iv_icmp_le (tgt := 33) hx hb dX6_pass_26 (by decide) (by omega) (by omega) (fun c_26 => by exfalso; omega) (fun c_26 => ?_)
  refine iv_iconst hx hb dX6_pass_29 ?_
  refine lv_goto (tgt := 34) hx hb dX6_pass_30 (by decide) ?_
  refine va_put (ci := 6) (ty := .int) hx hb hts inX6 tyX6 tyX6_ok nmX6 hown hK.1 hP (dm hD rfl) hS 0 rfl rfl 0 (by decide) (hts _ fl_X6_32) (fun _ h9 => h9) rfl (by decide +kernel) rfl rfl (Nat.le_of_ble_eq_true rfl) dX6_pass_34 (fun H locs hP _ hS => ?_)
  have hP : va_P E.1 vwCl (refW E ρ 2 rc tl pa kd nm st hi ke tx wy) H := hP
  refine lv_aload_n hx hb dX6_pass_37 rfl (lv_lk hl rfl) ?_
  refine va_get (D := E.1) (ci := 6) hx hb hts inX6 hown hK.1 hP 0 rfl rfl 0 (by decide) (hts _ fl_X6_32) (fun _ h9 => h9) rfl dX6_pass_38 ?_
  refine iv_if_le (tgt := 46) hx hb dX6_pass_41 (by decide) (by omega) (fun c_41 => by exfalso; omega) (fun c_41 => ?_)
  refine iv_iconst hx hb dX6_pass_44 ?_
  exact W.iret hx hb hrt (fun t ht hW => ⟨rfl, by rw [ht]; exact hP, hS.F ht⟩) hS.2.2 dX6_pass_45 hlocks
set_option maxHeartbeats 4000000 in
set_option maxRecDepth 100000 in
theorem m_X6_append_ok (l : Launch) (E : Env3) (ρ : Nat → Nat) (th rc pa kd nm : Int) (st hi ke tx wy : S) (hρ : dR ρ 6) (k : Nat) (hk : k ≤ 60) (v : Int) (hv : 33 ≤ v ∧ v ≤ 126) (hk2 : k < 60) : Met l yX6_append (Cond.code yX6_append cX6_append 2 (some .int) :: ALL) ({ frames := 1, cells := 0, slots := 0, locals := 22 }) (pR [.ref (ρ 0), .int (I v)] E (refW E ρ th rc ((k : Int)) pa kd nm st hi ke tx wy)) (qW (some (.int (I ((k : Int) + 1)))) E (refW E ρ th rc ((k : Int)) pa kd nm st hi ke tx wy) (refW E ρ 0 rc ((k : Int) + 1) pa kd nm st hi ke (up tx k v) wy)) 0 0 (adIn (refW E ρ th rc ((k : Int)) pa kd nm st hi ke tx wy)) := by
  refine mk_met (by decide) rfl (Nat.le_of_ble_eq_true rfl) ?_
  intro p e s m args below meth c hx hb hrt hml hts hown hlocks hnm hP hK ls hl
  have hown : s.vm.findClass RX6 = some m.cls := hown
  have hl : lv_has ls 2 [(0, .ref (ρ 0)), (1, .int (I v))] := hl
  have hD : va_D (adIn (refW E ρ th rc ((k : Int)) pa kd nm st hi ke tx wy)) (refW E ρ th rc ((k : Int)) pa kd nm st hi ke tx wy) := D_of_dR hρ rfl
  have hS : va_S (adIn (refW E ρ th rc ((k : Int)) pa kd nm st hi ke tx wy)) s.heap s.heap [] := va_S.rf
  refine lv_aload_n hx hb dX6_append_0 rfl (lv_lk hl rfl) ?_
  refine lv_iload_n hx hb dX6_append_1 rfl (lv_lk hl rfl) ?_
  refine iv_bipush hx hb dX6_append_2 (by decide +kernel) ?_
  refine iv_bipush hx hb dX6_append_4 (by decide +kernel) ?_
  refine call_S (va_runS ⟨hx, hb, hml, hown, hts⟩ (m_X6_within l E v 33 126 (by omega) (by omega) (by omega)) (va_cwS 3 hts (gi_S ml_X6_43 st_X6_within it_X6 cd_X6_within) rfl rfl rfl (by decide +kernel) ⟨Nat.le_of_ble_eq_true rfl, Nat.le_of_ble_eq_true rfl⟩) (pR_S (hP.sub (ws' := []) [] rfl) hK) rfl rfl hl.1 rfl (lv_room (Nat.le_of_ble_eq_true rfl)) dX6_append_6 ⟨Nat.le_of_ble_eq_true rfl, Nat.le_of_ble_eq_true rfl⟩) (fun _ h => h) hS rfl (fun locs hS => ?_)
  refine iv_eq (1) (by rw [if_pos (by omega)]) ?_
  refine iv_if_ne (tgt := 16) hx hb dX6_append_9 (by decide) (by omega) (fun c_9 => ?_) (fun c_9 => by exfalso; omega)
  refine lv_aload_n hx hb dX6_append_16 rfl (lv_lk hl rfl) ?_
  refine va_get (D := E.1) (ci := 6) hx hb hts inX6 hown hK.1 hP 0 rfl rfl 6 (by decide) (hts _ fl_X6_134) (fun _ h9 => h9) rfl dX6_append_17 ?_
  refine iv_bipush hx hb dX6_append_20 (by decide +kernel) ?_
  refine iv_icmp_ne (tgt := 29) hx hb dX6_append_22 (by decide) (by omega) (by omega) (fun c_22 => ?_) (fun c_22 => by exfalso; omega)
  refine iv_iconst hx hb dX6_append_29 ?_
  refine va_put (ci := 6) (ty := .int) hx hb hts inX6 tyX6 tyX6_ok nmX6 hown hK.1 hP (dm hD rfl) hS 0 rfl rfl 0 (by decide) (hts _ fl_X6_32) (fun _ h9 => h9) rfl (by decide +kernel) rfl rfl (Nat.le_of_ble_eq_true rfl) dX6_append_30 (fun H locs hP _ hS => ?_)
  have hP : va_P E.1 vwCl (refW E ρ 0 rc ((k : Int)) pa kd nm st hi ke tx wy) H := hP
  refine lv_aload_n hx hb dX6_append_33 rfl (lv_lk hl rfl) ?_
  refine va_get (D := E.1) (ci := 6) hx hb hts inX6 hown hK.1 hP 0 rfl rfl 0 (by decide) (hts _ fl_X6_32) (fun _ h9 => h9) rfl dX6_append_34 ?_
  refine iv_if_le (tgt := 42) hx hb dX6_append_37 (by decide) (by omega) (fun c_37 => ?_) (fun c_37 => by exfalso; omega)
  refine lv_aload_n hx hb dX6_append_42 rfl (lv_lk hl rfl) ?_
  refine va_get (D := E.1) (ci := 6) hx hb hts inX6 hown hK.1 hP 0 rfl rfl 5 (by decide) (hts _ fl_X6_19) (fun _ h9 => h9) rfl dX6_append_43 ?_
  refine lv_aload_n hx hb dX6_append_46 rfl (lv_lk hl rfl) ?_
  refine va_get (D := E.1) (ci := 6) hx hb hts inX6 hown hK.1 hP 0 rfl rfl 6 (by decide) (hts _ fl_X6_134) (fun _ h9 => h9) rfl dX6_append_47 ?_
  refine lv_iload_n hx hb dX6_append_50 rfl (lv_lk hl rfl) ?_
  refine iv_iast hx hb hK hP (dm hD rfl) hS 4 rfl (k) (by omega) (by omega) dX6_append_51 (refW E ρ 0 rc ((k : Int)) pa kd nm st hi ke (up tx k v) wy) (rfl) (fun H locs hP hS => ?_)
  refine lv_aload_n hx hb dX6_append_52 rfl (lv_lk hl rfl) ?_
  refine lv_dup hx hb dX6_append_53 rfl ?_
  refine va_get (D := E.1) (ci := 6) hx hb hts inX6 hown hK.1 hP 0 rfl rfl 6 (by decide) (hts _ fl_X6_134) (fun _ h9 => h9) rfl dX6_append_54 ?_
  refine iv_iconst hx hb dX6_append_57 ?_
  refine iv_iadd hx hb dX6_append_58 ?_
  refine va_put (ci := 6) (ty := .int) hx hb hts inX6 tyX6 tyX6_ok nmX6 hown hK.1 hP (dm hD rfl) hS 0 rfl rfl 6 (by decide) (hts _ fl_X6_134) (fun _ h9 => h9) rfl (by decide +kernel) rfl rfl (Nat.le_of_ble_eq_true rfl) dX6_append_59 (fun H locs hP _ hS => ?_)
  have hP : va_P E.1 vwCl (refW E ρ 0 rc ((k : Int) + 1) pa kd nm st hi ke (up tx k v) wy) H := hP
  refine lv_aload_n hx hb dX6_append_62 rfl (lv_lk hl rfl) ?_
  refine va_get (D := E.1) (ci := 6) hx hb hts inX6 hown hK.1 hP 0 rfl rfl 6 (by decide) (hts _ fl_X6_134) (fun _ h9 => h9) rfl dX6_append_63 ?_
  exact W.iret hx hb hrt (fun t ht hW => ⟨rfl, by rw [ht]; exact hP, hS.F ht⟩) hS.2.2 dX6_append_66 hlocks
set_option maxHeartbeats 4000000 in
set_option maxRecDepth 100000 in
theorem m_X6_append_bad1 (l : Launch) (E : Env3) (ρ : Nat → Nat) (th rc pa kd nm : Int) (st hi ke tx wy : S) (hρ : dR ρ 6) (k : Nat) (hk : k ≤ 60) (v : Int) (hv : -2147483648 ≤ v ∧ v ≤ 2147483647) (h1 : ¬ (33 ≤ v ∧ v ≤ 126)) : Met l yX6_append (Cond.code yX6_append cX6_append 2 (some .int) :: ALL) ({ frames := 1, cells := 0, slots := 0, locals := 22 }) (pR [.ref (ρ 0), .int (I v)] E (refW E ρ th rc ((k : Int)) pa kd nm st hi ke tx wy)) (qW (some (.int (I 0))) E (refW E ρ th rc ((k : Int)) pa kd nm st hi ke tx wy) (refW E ρ 1 rc ((k : Int)) pa kd nm st hi ke tx wy)) 0 0 (adIn (refW E ρ th rc ((k : Int)) pa kd nm st hi ke tx wy)) := by
  refine mk_met (by decide) rfl (Nat.le_of_ble_eq_true rfl) ?_
  intro p e s m args below meth c hx hb hrt hml hts hown hlocks hnm hP hK ls hl
  have hown : s.vm.findClass RX6 = some m.cls := hown
  have hl : lv_has ls 2 [(0, .ref (ρ 0)), (1, .int (I v))] := hl
  have hD : va_D (adIn (refW E ρ th rc ((k : Int)) pa kd nm st hi ke tx wy)) (refW E ρ th rc ((k : Int)) pa kd nm st hi ke tx wy) := D_of_dR hρ rfl
  have hS : va_S (adIn (refW E ρ th rc ((k : Int)) pa kd nm st hi ke tx wy)) s.heap s.heap [] := va_S.rf
  refine lv_aload_n hx hb dX6_append_0 rfl (lv_lk hl rfl) ?_
  refine lv_iload_n hx hb dX6_append_1 rfl (lv_lk hl rfl) ?_
  refine iv_bipush hx hb dX6_append_2 (by decide +kernel) ?_
  refine iv_bipush hx hb dX6_append_4 (by decide +kernel) ?_
  refine call_S (va_runS ⟨hx, hb, hml, hown, hts⟩ (m_X6_within l E v 33 126 (by omega) (by omega) (by omega)) (va_cwS 3 hts (gi_S ml_X6_43 st_X6_within it_X6 cd_X6_within) rfl rfl rfl (by decide +kernel) ⟨Nat.le_of_ble_eq_true rfl, Nat.le_of_ble_eq_true rfl⟩) (pR_S (hP.sub (ws' := []) [] rfl) hK) rfl rfl hl.1 rfl (lv_room (Nat.le_of_ble_eq_true rfl)) dX6_append_6 ⟨Nat.le_of_ble_eq_true rfl, Nat.le_of_ble_eq_true rfl⟩) (fun _ h => h) hS rfl (fun locs hS => ?_)
  refine iv_eq (0) (by rw [if_neg (by omega)]) ?_
  refine iv_if_ne (tgt := 16) hx hb dX6_append_9 (by decide) (by omega) (fun c_9 => by exfalso; omega) (fun c_9 => ?_)
  refine iv_iconst hx hb dX6_append_12 ?_
  refine lv_goto (tgt := 30) hx hb dX6_append_13 (by decide) ?_
  refine va_put (ci := 6) (ty := .int) hx hb hts inX6 tyX6 tyX6_ok nmX6 hown hK.1 hP (dm hD rfl) hS 0 rfl rfl 0 (by decide) (hts _ fl_X6_32) (fun _ h9 => h9) rfl (by decide +kernel) rfl rfl (Nat.le_of_ble_eq_true rfl) dX6_append_30 (fun H locs hP _ hS => ?_)
  have hP : va_P E.1 vwCl (refW E ρ 1 rc ((k : Int)) pa kd nm st hi ke tx wy) H := hP
  refine lv_aload_n hx hb dX6_append_33 rfl (lv_lk hl rfl) ?_
  refine va_get (D := E.1) (ci := 6) hx hb hts inX6 hown hK.1 hP 0 rfl rfl 0 (by decide) (hts _ fl_X6_32) (fun _ h9 => h9) rfl dX6_append_34 ?_
  refine iv_if_le (tgt := 42) hx hb dX6_append_37 (by decide) (by omega) (fun c_37 => by exfalso; omega) (fun c_37 => ?_)
  refine iv_iconst hx hb dX6_append_40 ?_
  exact W.iret hx hb hrt (fun t ht hW => ⟨rfl, by rw [ht]; exact hP, hS.F ht⟩) hS.2.2 dX6_append_41 hlocks
set_option maxHeartbeats 4000000 in
set_option maxRecDepth 100000 in
theorem m_X6_append_bad2 (l : Launch) (E : Env3) (ρ : Nat → Nat) (th rc pa kd nm : Int) (st hi ke tx wy : S) (hρ : dR ρ 6) (k : Nat) (hk : k ≤ 60) (v : Int) (h1 : 33 ≤ v ∧ v ≤ 126) (h2 : k = 60) : Met l yX6_append (Cond.code yX6_append cX6_append 2 (some .int) :: ALL) ({ frames := 1, cells := 0, slots := 0, locals := 22 }) (pR [.ref (ρ 0), .int (I v)] E (refW E ρ th rc ((k : Int)) pa kd nm st hi ke tx wy)) (qW (some (.int (I 0))) E (refW E ρ th rc ((k : Int)) pa kd nm st hi ke tx wy) (refW E ρ 2 rc ((k : Int)) pa kd nm st hi ke tx wy)) 0 0 (adIn (refW E ρ th rc ((k : Int)) pa kd nm st hi ke tx wy)) := by
  refine mk_met (by decide) rfl (Nat.le_of_ble_eq_true rfl) ?_
  intro p e s m args below meth c hx hb hrt hml hts hown hlocks hnm hP hK ls hl
  have hown : s.vm.findClass RX6 = some m.cls := hown
  have hl : lv_has ls 2 [(0, .ref (ρ 0)), (1, .int (I v))] := hl
  have hD : va_D (adIn (refW E ρ th rc ((k : Int)) pa kd nm st hi ke tx wy)) (refW E ρ th rc ((k : Int)) pa kd nm st hi ke tx wy) := D_of_dR hρ rfl
  have hS : va_S (adIn (refW E ρ th rc ((k : Int)) pa kd nm st hi ke tx wy)) s.heap s.heap [] := va_S.rf
  refine lv_aload_n hx hb dX6_append_0 rfl (lv_lk hl rfl) ?_
  refine lv_iload_n hx hb dX6_append_1 rfl (lv_lk hl rfl) ?_
  refine iv_bipush hx hb dX6_append_2 (by decide +kernel) ?_
  refine iv_bipush hx hb dX6_append_4 (by decide +kernel) ?_
  refine call_S (va_runS ⟨hx, hb, hml, hown, hts⟩ (m_X6_within l E v 33 126 (by omega) (by omega) (by omega)) (va_cwS 3 hts (gi_S ml_X6_43 st_X6_within it_X6 cd_X6_within) rfl rfl rfl (by decide +kernel) ⟨Nat.le_of_ble_eq_true rfl, Nat.le_of_ble_eq_true rfl⟩) (pR_S (hP.sub (ws' := []) [] rfl) hK) rfl rfl hl.1 rfl (lv_room (Nat.le_of_ble_eq_true rfl)) dX6_append_6 ⟨Nat.le_of_ble_eq_true rfl, Nat.le_of_ble_eq_true rfl⟩) (fun _ h => h) hS rfl (fun locs hS => ?_)
  refine iv_eq (1) (by rw [if_pos (by omega)]) ?_
  refine iv_if_ne (tgt := 16) hx hb dX6_append_9 (by decide) (by omega) (fun c_9 => ?_) (fun c_9 => by exfalso; omega)
  refine lv_aload_n hx hb dX6_append_16 rfl (lv_lk hl rfl) ?_
  refine va_get (D := E.1) (ci := 6) hx hb hts inX6 hown hK.1 hP 0 rfl rfl 6 (by decide) (hts _ fl_X6_134) (fun _ h9 => h9) rfl dX6_append_17 ?_
  refine iv_bipush hx hb dX6_append_20 (by decide +kernel) ?_
  refine iv_icmp_ne (tgt := 29) hx hb dX6_append_22 (by decide) (by omega) (by omega) (fun c_22 => by exfalso; omega) (fun c_22 => ?_)
  refine iv_iconst hx hb dX6_append_25 ?_
  refine lv_goto (tgt := 30) hx hb dX6_append_26 (by decide) ?_
  refine va_put (ci := 6) (ty := .int) hx hb hts inX6 tyX6 tyX6_ok nmX6 hown hK.1 hP (dm hD rfl) hS 0 rfl rfl 0 (by decide) (hts _ fl_X6_32) (fun _ h9 => h9) rfl (by decide +kernel) rfl rfl (Nat.le_of_ble_eq_true rfl) dX6_append_30 (fun H locs hP _ hS => ?_)
  have hP : va_P E.1 vwCl (refW E ρ 2 rc ((k : Int)) pa kd nm st hi ke tx wy) H := hP
  refine lv_aload_n hx hb dX6_append_33 rfl (lv_lk hl rfl) ?_
  refine va_get (D := E.1) (ci := 6) hx hb hts inX6 hown hK.1 hP 0 rfl rfl 0 (by decide) (hts _ fl_X6_32) (fun _ h9 => h9) rfl dX6_append_34 ?_
  refine iv_if_le (tgt := 42) hx hb dX6_append_37 (by decide) (by omega) (fun c_37 => by exfalso; omega) (fun c_37 => ?_)
  refine iv_iconst hx hb dX6_append_40 ?_
  exact W.iret hx hb hrt (fun t ht hW => ⟨rfl, by rw [ht]; exact hP, hS.F ht⟩) hS.2.2 dX6_append_41 hlocks
set_option maxHeartbeats 4000000 in
set_option maxRecDepth 100000 in
theorem m_X6_clearText (l : Launch) (E : Env3) (ρ : Nat → Nat) (th rc tl pa kd nm : Int) (st hi ke tx wy : S) (hρ : dR ρ 6) : Met l yX6_clearText (Cond.code yX6_clearText cX6_clearText 2 (some .int) :: ALL) ({ frames := 0, cells := 0, slots := 0, locals := 0 }) (pR [.ref (ρ 0)] E (refW E ρ th rc tl pa kd nm st hi ke tx wy)) (qW (some (.int (I tl))) E (refW E ρ th rc tl pa kd nm st hi ke tx wy) (refW E ρ 0 rc 0 pa kd nm st hi ke tx wy)) 0 0 (adIn (refW E ρ th rc tl pa kd nm st hi ke tx wy)) := by
  refine mk_met (by decide) rfl (Nat.le_of_ble_eq_true rfl) ?_
  intro p e s m args below meth c hx hb hrt hml hts hown hlocks hnm hP hK ls hl
  have hown : s.vm.findClass RX6 = some m.cls := hown
  have hl : lv_has ls 2 [(0, .ref (ρ 0))] := hl
  have hD : va_D (adIn (refW E ρ th rc tl pa kd nm st hi ke tx wy)) (refW E ρ th rc tl pa kd nm st hi ke tx wy) := D_of_dR hρ rfl
  have hS : va_S (adIn (refW E ρ th rc tl pa kd nm st hi ke tx wy)) s.heap s.heap [] := va_S.rf
  refine lv_aload_n hx hb dX6_clearText_0 rfl (lv_lk hl rfl) ?_
  refine iv_iconst hx hb dX6_clearText_1 ?_
  refine va_put (ci := 6) (ty := .int) hx hb hts inX6 tyX6 tyX6_ok nmX6 hown hK.1 hP (dm hD rfl) hS 0 rfl rfl 0 (by decide) (hts _ fl_X6_32) (fun _ h9 => h9) rfl (by decide +kernel) rfl rfl (Nat.le_of_ble_eq_true rfl) dX6_clearText_2 (fun H locs hP _ hS => ?_)
  have hP : va_P E.1 vwCl (refW E ρ 0 rc tl pa kd nm st hi ke tx wy) H := hP
  refine lv_aload_n hx hb dX6_clearText_5 rfl (lv_lk hl rfl) ?_
  refine va_get (D := E.1) (ci := 6) hx hb hts inX6 hown hK.1 hP 0 rfl rfl 6 (by decide) (hts _ fl_X6_134) (fun _ h9 => h9) rfl dX6_clearText_6 ?_
  refine lv_istore_n (lv' := [(1, .int (I _)), (0, .ref _)]) hx hb dX6_clearText_9 rfl hl (by decide) rfl (fun ls hl => ?_)
  refine lv_aload_n hx hb dX6_clearText_10 rfl (lv_lk hl rfl) ?_
  refine iv_iconst hx hb dX6_clearText_11 ?_
  refine va_put (ci := 6) (ty := .int) hx hb hts inX6 tyX6 tyX6_ok nmX6 hown hK.1 hP (dm hD rfl) hS 0 rfl rfl 6 (by decide) (hts _ fl_X6_134) (fun _ h9 => h9) rfl (by decide +kernel) rfl rfl (Nat.le_of_ble_eq_true rfl) dX6_clearText_12 (fun H locs hP _ hS => ?_)
  have hP : va_P E.1 vwCl (refW E ρ 0 rc 0 pa kd nm st hi ke tx wy) H := hP
  refine lv_iload_n hx hb dX6_clearText_15 rfl (lv_lk hl rfl) ?_
  exact W.iret hx hb hrt (fun t ht hW => ⟨rfl, by rw [ht]; exact hP, hS.F ht⟩) hS.2.2 dX6_clearText_16 hlocks
set_option maxHeartbeats 4000000 in
set_option maxRecDepth 100000 in
theorem m_X6_undo_ok (l : Launch) (E : Env3) (ρ : Nat → Nat) (th tl pa kd nm : Int) (st hi ke tx wy : S) (hρ : dR ρ 6) (n : Nat) (hn : n ≤ 5) : Met l yX6_undo (Cond.code yX6_undo cX6_undo 1 (some .int) :: ALL) ({ frames := 1, cells := 0, slots := 0, locals := 24 }) (pR [.ref (ρ 0)] E (refW E ρ th (((n : Int) + 1)) tl pa kd nm st hi ke tx wy)) (qW (some (.int (I (n : Int)))) E (refW E ρ th (((n : Int) + 1)) tl pa kd nm st hi ke tx wy) (refW E ρ 0 ((n : Int)) tl pa kd nm (fun j => hi (252 * n + j)) hi ke tx wy)) 0 0 (adIn (refW E ρ th (((n : Int) + 1)) tl pa kd nm st hi ke tx wy)) := by
  refine mk_met (by decide) rfl (Nat.le_of_ble_eq_true rfl) ?_
  intro p e s m args below meth c hx hb hrt hml hts hown hlocks hnm hP hK ls hl
  have hown : s.vm.findClass RX6 = some m.cls := hown
  have hl : lv_has ls 1 [(0, .ref (ρ 0))] := hl
  have hD : va_D (adIn (refW E ρ th (((n : Int) + 1)) tl pa kd nm st hi ke tx wy)) (refW E ρ th (((n : Int) + 1)) tl pa kd nm st hi ke tx wy) := D_of_dR hρ rfl
  have hS : va_S (adIn (refW E ρ th (((n : Int) + 1)) tl pa kd nm st hi ke tx wy)) s.heap s.heap [] := va_S.rf
  refine lv_aload_n hx hb dX6_undo_0 rfl (lv_lk hl rfl) ?_
  refine lv_aload_n hx hb dX6_undo_1 rfl (lv_lk hl rfl) ?_
  refine va_get (D := E.1) (ci := 6) hx hb hts inX6 hown hK.1 hP 0 rfl rfl 3 (by decide) (hts _ fl_X6_36) (fun _ h9 => h9) rfl dX6_undo_2 ?_
  refine iv_if_ne (tgt := 12) hx hb dX6_undo_5 (by decide) (by omega) (fun c_5 => ?_) (fun c_5 => by exfalso; omega)
  refine iv_iconst hx hb dX6_undo_12 ?_
  refine va_put (ci := 6) (ty := .int) hx hb hts inX6 tyX6 tyX6_ok nmX6 hown hK.1 hP (dm hD rfl) hS 0 rfl rfl 0 (by decide) (hts _ fl_X6_32) (fun _ h9 => h9) rfl (by decide +kernel) rfl rfl (Nat.le_of_ble_eq_true rfl) dX6_undo_13 (fun H locs hP _ hS => ?_)
  have hP : va_P E.1 vwCl (refW E ρ 0 (((n : Int) + 1)) tl pa kd nm st hi ke tx wy) H := hP
  refine lv_aload_n hx hb dX6_undo_16 rfl (lv_lk hl rfl) ?_
  refine va_get (D := E.1) (ci := 6) hx hb hts inX6 hown hK.1 hP 0 rfl rfl 0 (by decide) (hts _ fl_X6_32) (fun _ h9 => h9) rfl dX6_undo_17 ?_
  refine iv_if_le (tgt := 25) hx hb dX6_undo_20 (by decide) (by omega) (fun c_20 => ?_) (fun c_20 => by exfalso; omega)
  refine lv_aload_n hx hb dX6_undo_25 rfl (lv_lk hl rfl) ?_
  refine lv_dup hx hb dX6_undo_26 rfl ?_
  refine va_get (D := E.1) (ci := 6) hx hb hts inX6 hown hK.1 hP 0 rfl rfl 3 (by decide) (hts _ fl_X6_36) (fun _ h9 => h9) rfl dX6_undo_27 ?_
  refine iv_iconst hx hb dX6_undo_30 ?_
  refine iv_isub hx hb dX6_undo_31 ?_
  refine iv_eq ((n : Int)) (by omega) ?_
  refine va_put (ci := 6) (ty := .int) hx hb hts inX6 tyX6 tyX6_ok nmX6 hown hK.1 hP (dm hD rfl) hS 0 rfl rfl 3 (by decide) (hts _ fl_X6_36) (fun _ h9 => h9) rfl (by decide +kernel) rfl rfl (Nat.le_of_ble_eq_true rfl) dX6_undo_32 (fun H locs hP _ hS => ?_)
  have hP : va_P E.1 vwCl (refW E ρ 0 ((n : Int)) tl pa kd nm st hi ke tx wy) H := hP
  refine lv_aload_n hx hb dX6_undo_35 rfl (lv_lk hl rfl) ?_
  refine va_get (D := E.1) (ci := 6) hx hb hts inX6 hown hK.1 hP 0 rfl rfl 2 (by decide) (hts _ fl_X6_13) (fun _ h9 => h9) rfl dX6_undo_36 ?_
  refine lv_aload_n hx hb dX6_undo_39 rfl (lv_lk hl rfl) ?_
  refine va_get (D := E.1) (ci := 6) hx hb hts inX6 hown hK.1 hP 0 rfl rfl 3 (by decide) (hts _ fl_X6_36) (fun _ h9 => h9) rfl dX6_undo_40 ?_
  refine iv_sipush hx hb dX6_undo_43 (by decide +kernel) ?_
  refine iv_imul hx hb dX6_undo_46 ?_
  refine iv_eq (((252 * n : Nat) : Int)) (by omega) ?_
  refine lv_aload_n hx hb dX6_undo_47 rfl (lv_lk hl rfl) ?_
  refine va_get (D := E.1) (ci := 6) hx hb hts inX6 hown hK.1 hP 0 rfl rfl 1 (by decide) (hts _ fl_X6_7) (fun _ h9 => h9) rfl dX6_undo_48 ?_
  refine iv_iconst hx hb dX6_undo_51 ?_
  refine call_W (va_runS ⟨hx, hb, hml, hown, hts⟩ (m_X6_lays l E (ρ 2) (ρ 1) 1512 252 (252 * n) 0 hi st (fun h => absurd (hρ 2 1 (by decide) (by decide) h) (by decide)) (by omega) (by omega)) (va_cwS 4 hts (gi_S ml_X6_39 st_X6_lays it_X6 cd_X6_lays) rfl rfl rfl (by decide +kernel) ⟨Nat.le_of_ble_eq_true rfl, Nat.le_of_ble_eq_true rfl⟩) (pR_S (hP.sub (ws' := [(ρ 2, iA E 1512 hi), (ρ 1, iA E 252 st)]) [2, 1] rfl) hK) rfl rfl hl.1 rfl (lv_room (Nat.le_of_ble_eq_true rfl)) dX6_undo_52 ⟨Nat.le_of_ble_eq_true rfl, Nat.le_of_ble_eq_true rfl⟩) hP (dm hD rfl) hS [2, 1] rfl (by decide) rfl (refW E ρ 0 ((n : Int)) tl pa kd nm (layN hi (252 * n) st 0 252) hi ke tx wy) (rfl) rfl (fun H locs hP hS => ?_)
  have hP : va_P E.1 vwCl (refW E ρ 0 ((n : Int)) tl pa kd nm (fun j => hi (252 * n + j)) hi ke tx wy) H := ref_st (fun j hj => undo_st hj) hP
  refine lv_aload_n hx hb dX6_undo_55 rfl (lv_lk hl rfl) ?_
  refine va_get (D := E.1) (ci := 6) hx hb hts inX6 hown hK.1 hP 0 rfl rfl 3 (by decide) (hts _ fl_X6_36) (fun _ h9 => h9) rfl dX6_undo_56 ?_
  exact W.iret hx hb hrt (fun t ht hW => ⟨rfl, by rw [ht]; exact hP, hS.F ht⟩) hS.2.2 dX6_undo_59 hlocks
set_option maxHeartbeats 4000000 in
set_option maxRecDepth 100000 in
theorem m_X6_undo_bad (l : Launch) (E : Env3) (ρ : Nat → Nat) (th tl pa kd nm : Int) (st hi ke tx wy : S) (hρ : dR ρ 6) : Met l yX6_undo (Cond.code yX6_undo cX6_undo 1 (some .int) :: ALL) ({ frames := 1, cells := 0, slots := 0, locals := 24 }) (pR [.ref (ρ 0)] E (refW E ρ th 0 tl pa kd nm st hi ke tx wy)) (qW (some (.int (I 0))) E (refW E ρ th 0 tl pa kd nm st hi ke tx wy) (refW E ρ 1 0 tl pa kd nm st hi ke tx wy)) 0 0 (adIn (refW E ρ th 0 tl pa kd nm st hi ke tx wy)) := by
  refine mk_met (by decide) rfl (Nat.le_of_ble_eq_true rfl) ?_
  intro p e s m args below meth c hx hb hrt hml hts hown hlocks hnm hP hK ls hl
  have hown : s.vm.findClass RX6 = some m.cls := hown
  have hl : lv_has ls 1 [(0, .ref (ρ 0))] := hl
  have hD : va_D (adIn (refW E ρ th 0 tl pa kd nm st hi ke tx wy)) (refW E ρ th 0 tl pa kd nm st hi ke tx wy) := D_of_dR hρ rfl
  have hS : va_S (adIn (refW E ρ th 0 tl pa kd nm st hi ke tx wy)) s.heap s.heap [] := va_S.rf
  refine lv_aload_n hx hb dX6_undo_0 rfl (lv_lk hl rfl) ?_
  refine lv_aload_n hx hb dX6_undo_1 rfl (lv_lk hl rfl) ?_
  refine va_get (D := E.1) (ci := 6) hx hb hts inX6 hown hK.1 hP 0 rfl rfl 3 (by decide) (hts _ fl_X6_36) (fun _ h9 => h9) rfl dX6_undo_2 ?_
  refine iv_if_ne (tgt := 12) hx hb dX6_undo_5 (by decide) (by omega) (fun c_5 => by exfalso; omega) (fun c_5 => ?_)
  refine iv_iconst hx hb dX6_undo_8 ?_
  refine lv_goto (tgt := 13) hx hb dX6_undo_9 (by decide) ?_
  refine va_put (ci := 6) (ty := .int) hx hb hts inX6 tyX6 tyX6_ok nmX6 hown hK.1 hP (dm hD rfl) hS 0 rfl rfl 0 (by decide) (hts _ fl_X6_32) (fun _ h9 => h9) rfl (by decide +kernel) rfl rfl (Nat.le_of_ble_eq_true rfl) dX6_undo_13 (fun H locs hP _ hS => ?_)
  have hP : va_P E.1 vwCl (refW E ρ 1 0 tl pa kd nm st hi ke tx wy) H := hP
  refine lv_aload_n hx hb dX6_undo_16 rfl (lv_lk hl rfl) ?_
  refine va_get (D := E.1) (ci := 6) hx hb hts inX6 hown hK.1 hP 0 rfl rfl 0 (by decide) (hts _ fl_X6_32) (fun _ h9 => h9) rfl dX6_undo_17 ?_
  refine iv_if_le (tgt := 25) hx hb dX6_undo_20 (by decide) (by omega) (fun c_20 => by exfalso; omega) (fun c_20 => ?_)
  refine iv_iconst hx hb dX6_undo_23 ?_
  exact W.iret hx hb hrt (fun t ht hW => ⟨rfl, by rw [ht]; exact hP, hS.F ht⟩) hS.2.2 dX6_undo_24 hlocks
