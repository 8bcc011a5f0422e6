/-! the reference, second part; written by ref.py -/
set_option maxHeartbeats 4000000 in
set_option maxRecDepth 100000 in
theorem m_X6_thrown (l : Launch) (E : Env3) (ρ : Nat → Nat) (th rc tl pa kd nm : Int) (st hi ke tx wy : S) : Met l yX6_thrown (Cond.code yX6_thrown cX6_thrown 1 (some .int) :: ALL) ({ frames := 0, cells := 0, slots := 0, locals := 0 }) (pR [.ref (ρ 0)] E (refW E ρ th rc tl pa kd nm st hi ke tx wy)) (qS (some (.int (I (th))))) 0 0 (fun _ => False) := by
  refine mk_met (by decide) rfl (Nat.le_of_ble_eq_true rfl) ?_
  intro p e s m args below meth c hx hb hrt hml hts hown hlocks hnm hP hK ls hl
  have hown : s.vm.findClass RX6 = some m.cls := hown
  have hl : lv_has ls 1 [(0, .ref (ρ 0))] := hl
  have hS : va_S (fun _ => False) s.heap s.heap [] := va_S.rf
  refine lv_aload_n hx hb dX6_thrown_0 rfl (lv_lk hl rfl) ?_
  refine va_get (D := E.1) (ci := 6) hx hb hts inX6 hown hK.1 hP 0 rfl rfl 0 (by decide) (hts _ fl_X6_32) (fun _ h9 => h9) rfl dX6_thrown_1 ?_
  exact W.iret hx hb hrt (fun t ht hW => ⟨rfl, ht⟩) hS.2.2 dX6_thrown_4 hlocks
set_option maxHeartbeats 4000000 in
set_option maxRecDepth 100000 in
theorem m_X6_costs (l : Launch) (E : Env3) (ρ : Nat → Nat) (th rc tl pa kd nm : Int) (st hi ke tx wy : S) (hρ : dR ρ 6) (z : Nat) (hz : z < 6) : Met l yX6_costs (Cond.code yX6_costs cX6_costs 2 none :: ALL) ({ frames := 1, cells := 0, slots := 0, locals := 23 }) (pR [.ref (ρ 0), .int (I (z : Int))] E (refW E ρ th rc tl pa kd nm st hi ke tx wy)) (qW none E (refW E ρ th rc tl pa kd nm st hi ke tx wy) (refW E ρ th rc tl pa kd nm (costs st z) hi ke tx wy)) 0 0 (adIn (refW E ρ th rc tl pa kd nm st hi ke tx wy)) := by
  refine mk_met (by decide) rfl (Nat.le_of_ble_eq_true rfl) ?_
  intro p e s m args below meth c hx hb hrt hml hts hown hlocks hnm hP hK ls hl
  have hown : s.vm.findClass RX6 = some m.cls := hown
  have hl : lv_has ls 2 [(0, .ref (ρ 0)), (1, .int (I (z : Int)))] := hl
  have hD : va_D (adIn (refW E ρ th rc tl pa kd nm st hi ke tx wy)) (refW E ρ th rc tl pa kd nm st hi ke tx wy) := D_of_dR hρ rfl
  have hS : va_S (adIn (refW E ρ th rc tl pa kd nm st hi ke tx wy)) s.heap s.heap [] := va_S.rf
  refine lv_aload_n hx hb dX6_costs_0 rfl (lv_lk hl rfl) ?_
  refine va_get (D := E.1) (ci := 6) hx hb hts inX6 hown hK.1 hP 0 rfl rfl 1 (by decide) (hts _ fl_X6_7) (fun _ h9 => h9) rfl dX6_costs_1 ?_
  refine iv_iconst hx hb dX6_costs_4 ?_
  refine lv_dup2_11 hx hb dX6_costs_5 rfl rfl ?_
  refine iv_iald hx hb hK hP 1 rfl (2) (by omega) (by omega) dX6_costs_6 ?_
  refine iv_iconst hx hb dX6_costs_7 ?_
  refine iv_iadd hx hb dX6_costs_8 ?_
  refine iv_iast hx hb hK hP (dm hD rfl) hS 1 rfl (2) (by omega) (by omega) dX6_costs_9 (refW E ρ th rc tl pa kd nm (up st 2 (st 2 + 1)) hi ke tx wy) (rfl) (fun H locs hP hS => ?_)
  refine lv_aload_n hx hb dX6_costs_10 rfl (lv_lk hl rfl) ?_
  refine lv_iload_n hx hb dX6_costs_11 rfl (lv_lk hl rfl) ?_
  refine iv_iconst hx hb dX6_costs_12 ?_
  refine lv_aload_n hx hb dX6_costs_13 rfl (lv_lk hl rfl) ?_
  refine lv_iload_n hx hb dX6_costs_14 rfl (lv_lk hl rfl) ?_
  refine iv_iconst hx hb dX6_costs_15 ?_
  refine call_S (va_runV ⟨hx, hb, hml, hown, hts⟩ (m_X6_ofZone l E ρ th rc tl pa kd nm (up st 2 (st 2 + 1)) hi ke tx wy z 4 hz (by decide)) (cwV 2 hts (gi_V ml_X6_50 im_X6_ofZone sl_X6_ofZone it_X6 cd_X6_ofZone) rfl rfl rfl (by decide +kernel) ⟨Nat.le_of_ble_eq_true rfl, Nat.le_of_ble_eq_true rfl⟩) (pR_V (q0 := 0) (ci := 6) hP hK rfl rfl) rfl rfl hl.1 rfl (lv_room (Nat.le_of_ble_eq_true rfl)) dX6_costs_16 ⟨Nat.le_of_ble_eq_true rfl, Nat.le_of_ble_eq_true rfl⟩) (fun _ h => h) hS rfl (fun locs hS => ?_)
  refine iv_iconst hx hb dX6_costs_19 ?_
  refine iv_iadd hx hb dX6_costs_20 ?_
  refine call_F (va_runV ⟨hx, hb, hml, hown, hts⟩ (m_X6_putsZone l E ρ th rc tl pa kd nm (up st 2 (st 2 + 1)) hi ke tx wy hρ z 4 _ hz (by decide)) (cwV 3 hts (gi_V ml_X6_25 im_X6_putsZone sl_X6_putsZone it_X6 cd_X6_putsZone) rfl rfl rfl (by decide +kernel) ⟨Nat.le_of_ble_eq_true rfl, Nat.le_of_ble_eq_true rfl⟩) (pR_V (q0 := 0) (ci := 6) hP hK rfl rfl) rfl rfl hl.1 rfl (lv_room (Nat.le_of_ble_eq_true rfl)) dX6_costs_21 ⟨Nat.le_of_ble_eq_true rfl, Nat.le_of_ble_eq_true rfl⟩) (dm hD rfl) hS rfl (fun H locs hP hS => ?_)
  have hP : va_P E.1 vwCl (refW E ρ th rc tl pa kd nm (costs st z) hi ke tx wy) H := hP
  exact W.vret hx hb hrt (fun t ht hW => ⟨rfl, by rw [ht]; exact hP, hS.F ht⟩) hS.2.2 dX6_costs_24 hlocks
set_option maxHeartbeats 4000000 in
set_option maxRecDepth 100000 in
theorem m_X6_record (l : Launch) (E : Env3) (ρ : Nat → Nat) (th tl pa kd nm : Int) (st hi ke tx wy : S) (hρ : dR ρ 6) (n : Nat) (hn : n ≤ 6) : Met l yX6_record (Cond.code yX6_record cX6_record 2 none :: ALL) ({ frames := 1, cells := 0, slots := 0, locals := 24 }) (pR [.ref (ρ 0)] E (refW E ρ th ((n : Int)) tl pa kd nm st hi ke tx wy)) (qW none E (refW E ρ th ((n : Int)) tl pa kd nm st hi ke tx wy) (refW E ρ th ((recN n : Int)) tl pa kd nm st (recH st hi n) ke tx wy)) 0 0 (adIn (refW E ρ th ((n : Int)) tl pa kd nm st hi ke tx wy)) := by
  refine mk_met (by decide) rfl (Nat.le_of_ble_eq_true rfl) ?_
  intro p e s m args below meth c hx hb hrt hml hts hown hlocks hnm hP hK ls hl
  have hown : s.vm.findClass RX6 = some m.cls := hown
  have hl : lv_has ls 2 [(0, .ref (ρ 0))] := hl
  have hD : va_D (adIn (refW E ρ th ((n : Int)) tl pa kd nm st hi ke tx wy)) (refW E ρ th ((n : Int)) tl pa kd nm st hi ke tx wy) := D_of_dR hρ rfl
  have hS : va_S (adIn (refW E ρ th ((n : Int)) tl pa kd nm st hi ke tx wy)) s.heap s.heap [] := va_S.rf
  refine lv_aload_n hx hb dX6_record_0 rfl (lv_lk hl rfl) ?_
  refine va_get (D := E.1) (ci := 6) hx hb hts inX6 hown hK.1 hP 0 rfl rfl 3 (by decide) (hts _ fl_X6_36) (fun _ h9 => h9) rfl dX6_record_1 ?_
  refine iv_bipush hx hb dX6_record_4 (by decide +kernel) ?_
  refine iv_icmp_ne (tgt := 50) hx hb dX6_record_6 (by decide) (by omega) (by omega) (fun c_6 => ?_) (fun c_6 => ?_)
  · refine lv_aload_n hx hb dX6_record_50 rfl (lv_lk hl rfl) ?_
    refine va_get (D := E.1) (ci := 6) hx hb hts inX6 hown hK.1 hP 0 rfl rfl 1 (by decide) (hts _ fl_X6_7) (fun _ h9 => h9) rfl dX6_record_51 ?_
    refine iv_iconst hx hb dX6_record_54 ?_
    refine lv_aload_n hx hb dX6_record_55 rfl (lv_lk hl rfl) ?_
    refine va_get (D := E.1) (ci := 6) hx hb hts inX6 hown hK.1 hP 0 rfl rfl 2 (by decide) (hts _ fl_X6_13) (fun _ h9 => h9) rfl dX6_record_56 ?_
    refine lv_aload_n hx hb dX6_record_59 rfl (lv_lk hl rfl) ?_
    refine va_get (D := E.1) (ci := 6) hx hb hts inX6 hown hK.1 hP 0 rfl rfl 3 (by decide) (hts _ fl_X6_36) (fun _ h9 => h9) rfl dX6_record_60 ?_
    refine iv_sipush hx hb dX6_record_63 (by decide +kernel) ?_
    refine iv_imul hx hb dX6_record_66 ?_
    refine iv_eq (((252 * n : Nat) : Int)) (by omega) ?_
    refine call_W (va_runS ⟨hx, hb, hml, hown, hts⟩ (m_X6_lays l E (ρ 1) (ρ 2) 252 1512 0 (252 * n) st hi (fun h => absurd (hρ 1 2 (by decide) (by decide) h) (by decide)) (by omega) (by omega)) (va_cwS 4 hts (gi_S ml_X6_39 st_X6_lays it_X6 cd_X6_lays) rfl rfl rfl (by decide +kernel) ⟨Nat.le_of_ble_eq_true rfl, Nat.le_of_ble_eq_true rfl⟩) (pR_S (hP.sub (ws' := [(ρ 1, iA E 252 st), (ρ 2, iA E 1512 hi)]) [1, 2] rfl) hK) rfl rfl hl.1 rfl (lv_room (Nat.le_of_ble_eq_true rfl)) dX6_record_67 ⟨Nat.le_of_ble_eq_true rfl, Nat.le_of_ble_eq_true rfl⟩) hP (dm hD rfl) hS [1, 2] rfl (by decide) rfl (refW E ρ th ((n : Int)) tl pa kd nm st (layN st 0 hi (252 * n) 252) ke tx wy) (rfl) rfl (fun H locs hP hS => ?_)
    refine lv_aload_n hx hb dX6_record_70 rfl (lv_lk hl rfl) ?_
    refine lv_dup hx hb dX6_record_71 rfl ?_
    refine va_get (D := E.1) (ci := 6) hx hb hts inX6 hown hK.1 hP 0 rfl rfl 3 (by decide) (hts _ fl_X6_36) (fun _ h9 => h9) rfl dX6_record_72 ?_
    refine iv_iconst hx hb dX6_record_75 ?_
    refine iv_iadd hx hb dX6_record_76 ?_
    refine va_put (ci := 6) (ty := .int) hx hb hts inX6 tyX6 tyX6_ok nmX6 hown hK.1 hP (dm hD rfl) hS 0 rfl rfl 3 (by decide) (hts _ fl_X6_36) (fun _ h9 => h9) rfl (by decide +kernel) rfl rfl (Nat.le_of_ble_eq_true rfl) dX6_record_77 (fun H locs hP _ hS => ?_)
    have hP : va_P E.1 vwCl (refW E ρ th ((n : Int) + 1) tl pa kd nm st (layN st 0 hi (252 * n) 252) ke tx wy) H := hP
    exact W.vret hx hb hrt (fun t ht hW => ⟨rfl, by rw [ht]; exact (by rw [recH, recN, if_neg (by omega), if_neg (by omega)]; exact hP), hS.F ht⟩) hS.2.2 dX6_record_80 hlocks
  · refine iv_iconst hx hb dX6_record_9 ?_
    refine lv_istore_n (lv' := [(1, .int (I _)), (0, .ref _)]) hx hb dX6_record_10 rfl hl (by decide) rfl (fun ls hl => ?_)
    have LOOP11 : ∀ (n9 i : Nat), (i + n9 = 1260) → ∀ (H : Heap) (locs : List Loc) (ls : Array Slot), va_P E.1 vwCl (refW E ρ th ((n : Int)) tl pa kd nm st (shiftN hi i) ke tx wy) H → va_S (adIn (refW E ρ th ((n : Int)) tl pa kd nm st hi ke tx wy)) s.heap H locs → lv_has ls 2 [(0, .ref (ρ 0)), (1, .int (I (i : Int)))] → W p l e ({ frames := 1, cells := 0, slots := 0, locals := 24 }) s m args below meth c H locs 0 0 (MQ below (qW none E (refW E ρ th ((n : Int)) tl pa kd nm st hi ke tx wy) (refW E ρ th ((recN n : Int)) tl pa kd nm st (recH st hi n) ke tx wy)) args s 0 0 (adIn (refW E ρ th ((n : Int)) tl pa kd nm st hi ke tx wy))) (F0 m 11 ls []) := by
      intro n9
      induction n9 with
      | zero =>
        intro  i hi9 H locs ls hP hS hl
        refine lv_iload_n hx hb dX6_record_11 rfl (lv_lk hl rfl) ?_
        refine iv_sipush hx hb dX6_record_12 (by decide +kernel) ?_
        refine iv_icmp_ge (tgt := 40) hx hb dX6_record_15 (by decide) (by omega) (by omega) (fun c_15 => ?_) (fun c_15 => by exfalso; omega)
        refine lv_aload_n hx hb dX6_record_40 rfl (lv_lk hl rfl) ?_
        refine lv_dup hx hb dX6_record_41 rfl ?_
        refine va_get (D := E.1) (ci := 6) hx hb hts inX6 hown hK.1 hP 0 rfl rfl 3 (by decide) (hts _ fl_X6_36) (fun _ h9 => h9) rfl dX6_record_42 ?_
        refine iv_iconst hx hb dX6_record_45 ?_
        refine iv_isub hx hb dX6_record_46 ?_
        refine iv_eq (5) (by omega) ?_
        refine va_put (ci := 6) (ty := .int) hx hb hts inX6 tyX6 tyX6_ok nmX6 hown hK.1 hP (dm hD rfl) hS 0 rfl rfl 3 (by decide) (hts _ fl_X6_36) (fun _ h9 => h9) rfl (by decide +kernel) rfl rfl (Nat.le_of_ble_eq_true rfl) dX6_record_47 (fun H locs hP _ hS => ?_)
        have hP : va_P E.1 vwCl (refW E ρ th 5 tl pa kd nm st (shiftN hi i) ke tx wy) H := hP
        refine lv_aload_n hx hb dX6_record_50 rfl (lv_lk hl rfl) ?_
        refine va_get (D := E.1) (ci := 6) hx hb hts inX6 hown hK.1 hP 0 rfl rfl 1 (by decide) (hts _ fl_X6_7) (fun _ h9 => h9) rfl dX6_record_51 ?_
        refine iv_iconst hx hb dX6_record_54 ?_
        refine lv_aload_n hx hb dX6_record_55 rfl (lv_lk hl rfl) ?_
        refine va_get (D := E.1) (ci := 6) hx hb hts inX6 hown hK.1 hP 0 rfl rfl 2 (by decide) (hts _ fl_X6_13) (fun _ h9 => h9) rfl dX6_record_56 ?_
        refine lv_aload_n hx hb dX6_record_59 rfl (lv_lk hl rfl) ?_
        refine va_get (D := E.1) (ci := 6) hx hb hts inX6 hown hK.1 hP 0 rfl rfl 3 (by decide) (hts _ fl_X6_36) (fun _ h9 => h9) rfl dX6_record_60 ?_
        refine iv_sipush hx hb dX6_record_63 (by decide +kernel) ?_
        refine iv_imul hx hb dX6_record_66 ?_
        refine iv_eq (((1260 : Nat) : Int)) (by omega) ?_
        refine call_W (va_runS ⟨hx, hb, hml, hown, hts⟩ (m_X6_lays l E (ρ 1) (ρ 2) 252 1512 0 1260 st (shiftN hi i) (fun h => absurd (hρ 1 2 (by decide) (by decide) h) (by decide)) (by omega) (by omega)) (va_cwS 4 hts (gi_S ml_X6_39 st_X6_lays it_X6 cd_X6_lays) rfl rfl rfl (by decide +kernel) ⟨Nat.le_of_ble_eq_true rfl, Nat.le_of_ble_eq_true rfl⟩) (pR_S (hP.sub (ws' := [(ρ 1, iA E 252 st), (ρ 2, iA E 1512 (shiftN hi i))]) [1, 2] rfl) hK) rfl rfl hl.1 rfl (lv_room (Nat.le_of_ble_eq_true rfl)) dX6_record_67 ⟨Nat.le_of_ble_eq_true rfl, Nat.le_of_ble_eq_true rfl⟩) hP (dm hD rfl) hS [1, 2] rfl (by decide) rfl (refW E ρ th 5 tl pa kd nm st (layN st 0 (shiftN hi i) 1260 252) ke tx wy) (rfl) rfl (fun H locs hP hS => ?_)
        refine lv_aload_n hx hb dX6_record_70 rfl (lv_lk hl rfl) ?_
        refine lv_dup hx hb dX6_record_71 rfl ?_
        refine va_get (D := E.1) (ci := 6) hx hb hts inX6 hown hK.1 hP 0 rfl rfl 3 (by decide) (hts _ fl_X6_36) (fun _ h9 => h9) rfl dX6_record_72 ?_
        refine iv_iconst hx hb dX6_record_75 ?_
        refine iv_iadd hx hb dX6_record_76 ?_
        refine va_put (ci := 6) (ty := .int) hx hb hts inX6 tyX6 tyX6_ok nmX6 hown hK.1 hP (dm hD rfl) hS 0 rfl rfl 3 (by decide) (hts _ fl_X6_36) (fun _ h9 => h9) rfl (by decide +kernel) rfl rfl (Nat.le_of_ble_eq_true rfl) dX6_record_77 (fun H locs hP _ hS => ?_)
        have hP : va_P E.1 vwCl (refW E ρ th 6 tl pa kd nm st (layN st 0 (shiftN hi i) 1260 252) ke tx wy) H := hP
        exact W.vret hx hb hrt (fun t ht hW => ⟨rfl, by rw [ht]; exact (by rw [recH, recN, if_pos (by omega), if_pos (by omega)]; rw [show i = 1260 by omega] at hP; exact hP), hS.F ht⟩) hS.2.2 dX6_record_80 hlocks
      | succ n9 ih =>
        intro  i hi9 H locs ls hP hS hl
        refine lv_iload_n hx hb dX6_record_11 rfl (lv_lk hl rfl) ?_
        refine iv_sipush hx hb dX6_record_12 (by decide +kernel) ?_
        refine iv_icmp_ge (tgt := 40) hx hb dX6_record_15 (by decide) (by omega) (by omega) (fun c_15 => by exfalso; omega) (fun c_15 => ?_)
        refine lv_aload_n hx hb dX6_record_18 rfl (lv_lk hl rfl) ?_
        refine va_get (D := E.1) (ci := 6) hx hb hts inX6 hown hK.1 hP 0 rfl rfl 2 (by decide) (hts _ fl_X6_13) (fun _ h9 => h9) rfl dX6_record_19 ?_
        refine lv_iload_n hx hb dX6_record_22 rfl (lv_lk hl rfl) ?_
        refine lv_aload_n hx hb dX6_record_23 rfl (lv_lk hl rfl) ?_
        refine va_get (D := E.1) (ci := 6) hx hb hts inX6 hown hK.1 hP 0 rfl rfl 2 (by decide) (hts _ fl_X6_13) (fun _ h9 => h9) rfl dX6_record_24 ?_
        refine lv_iload_n hx hb dX6_record_27 rfl (lv_lk hl rfl) ?_
        refine iv_sipush hx hb dX6_record_28 (by decide +kernel) ?_
        refine iv_iadd hx hb dX6_record_31 ?_
        refine iv_iald hx hb hK hP 2 rfl (i + 252) (by omega) (by omega) dX6_record_32 ?_
        refine iv_iast hx hb hK hP (dm hD rfl) hS 2 rfl (i) (by omega) (by omega) dX6_record_33 (refW E ρ th ((n : Int)) tl pa kd nm st (shiftN hi (i + 1)) ke tx wy) (by rw [← shiftN_s, show shiftN hi i (i + 252) = hi (i + 252) from if_neg (by omega)]; rfl) (fun H locs hP hS => ?_)
        refine iv_iinc (k := 1) hx hb dX6_record_34 hl rfl (((i + 1 : Nat) : Int)) (by omega) (by decide) [(1, .int (I _)), (0, .ref _)] rfl (fun ls hl => ?_)
        refine lv_goto (tgt := 11) hx hb dX6_record_37 (by decide) ?_
        exact ih (i + 1) (by omega) H locs ls hP hS (lv_sub hl [1, 0] rfl)
    exact LOOP11 1260 0 (by omega) _ _ _ (by rw [shiftN_0]; exact hP) hS (lv_sub hl [1, 0] rfl)
