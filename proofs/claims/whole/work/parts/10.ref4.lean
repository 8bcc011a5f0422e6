/-! the reference, fourth part; written by ref.py -/
set_option maxHeartbeats 4000000 in
set_option maxRecDepth 100000 in
theorem m_X6_asks (l : Launch) (E : Env3) (ρ : Nat → Nat) (th rc tl pa kd nm : Int) (st hi ke tx wy : S) (hρ : dR ρ 6) (T : Int) (hI : IB T st) (r : Nat) (hr : r < 36) : Met l yX6_asks (Cond.code yX6_asks cX6_asks 4 none :: ALL) ({ frames := 3, cells := 0, slots := 0, locals := 68 }) (pR [.ref (ρ 0), .int (I (r : Int))] E (refW E ρ th rc tl pa kd nm st hi ke tx wy)) (qX none E (refW E ρ th rc tl pa kd nm st hi ke tx wy) (fun wy => (refW E ρ th rc tl pa kd nm (asks st r) hi ke tx wy))) 0 0 (adIn (refW E ρ th rc tl pa kd nm st hi ke tx wy)) := by
  refine mk_met (by decide) rfl (Nat.le_of_ble_eq_true rfl) ?_
  intro p e s m args below meth c hx hb hrt hml hts hown hlocks hnm hP hK ls hl
  have hown : s.vm.findClass RX6 = some m.cls := hown
  have hl : lv_has ls 4 [(0, .ref (ρ 0)), (1, .int (I (r : Int)))] := hl
  have hD : va_D (adIn (refW E ρ th rc tl pa kd nm st hi ke tx wy)) (refW E ρ th rc tl pa kd nm st hi ke tx wy) := D_of_dR hρ rfl
  have hS : va_S (adIn (refW E ρ th rc tl pa kd nm st hi ke tx wy)) s.heap s.heap [] := va_S.rf
  refine lv_iload_n hx hb dX6_asks_0 rfl (lv_lk hl rfl) ?_
  refine iv_bipush hx hb dX6_asks_1 (by decide +kernel) ?_
  refine iv_idiv hx hb dX6_asks_3 (((r / 6 : Nat) : Int)) (I_div (x := r) (y := 6) (by omega) (by omega)) (by omega) ?_
  refine lv_istore_n (lv' := [(2, .int (I _)), (0, .ref _), (1, .int (I _))]) hx hb dX6_asks_4 rfl hl (by decide) rfl (fun ls hl => ?_)
  refine lv_aload_n hx hb dX6_asks_5 rfl (lv_lk hl rfl) ?_
  refine lv_iload_n hx hb dX6_asks_6 rfl (lv_lk hl rfl) ?_
  refine call_X (va_runV ⟨hx, hb, hml, hown, hts⟩ (m_X6_comesTo l E ρ th rc tl pa kd nm st hi ke tx wy hρ T hI (r / 6) (by omega)) (cwV 1 hts (gi_V ml_X6_75 im_X6_comesTo sl_X6_comesTo it_X6 cd_X6_comesTo) rfl rfl rfl (by decide +kernel) ⟨Nat.le_of_ble_eq_true rfl, Nat.le_of_ble_eq_true rfl⟩) (pR_V (q0 := 0) (ci := 6) hP hK rfl rfl) rfl rfl hl.1 rfl (lv_room (Nat.le_of_ble_eq_true rfl)) dX6_asks_7 ⟨Nat.le_of_ble_eq_true rfl, Nat.le_of_ble_eq_true rfl⟩) (dm hD rfl) hS rfl (fun wy1 H locs hP hS => ?_)
  have hP : va_P E.1 vwCl (refW E ρ th rc tl pa kd nm (come 6 st (r / 6)) hi ke tx wy1) H := hP
  refine lv_aload_n hx hb dX6_asks_10 rfl (lv_lk hl rfl) ?_
  refine lv_iload_n hx hb dX6_asks_11 rfl (lv_lk hl rfl) ?_
  refine call_F (va_runV ⟨hx, hb, hml, hown, hts⟩ (m_X6_costs l E ρ th rc tl pa kd nm (come 6 st (r / 6)) hi ke tx wy1 hρ (r / 6) (by omega)) (cwV 1 hts (gi_V ml_X6_71 im_X6_costs sl_X6_costs it_X6 cd_X6_costs) rfl rfl rfl (by decide +kernel) ⟨Nat.le_of_ble_eq_true rfl, Nat.le_of_ble_eq_true rfl⟩) (pR_V (q0 := 0) (ci := 6) hP hK rfl rfl) rfl rfl hl.1 rfl (lv_room (Nat.le_of_ble_eq_true rfl)) dX6_asks_12 ⟨Nat.le_of_ble_eq_true rfl, Nat.le_of_ble_eq_true rfl⟩) (dm hD rfl) hS rfl (fun H locs hP hS => ?_)
  have hP : va_P E.1 vwCl (refW E ρ th rc tl pa kd nm (costs (come 6 st (r / 6)) (r / 6)) hi ke tx wy1) H := hP
  obtain ⟨s1, hs1⟩ : ∃ x, x = costs (come 6 st (r / 6)) (r / 6) := ⟨_, rfl⟩
  rw [← hs1] at hP
  have hI1 : IB T s1 := by rw [hs1]; exact IB_costs (IB_come hI (by omega)) (by omega)
  have t1 := (hI1.2.2.2 r hr).1
  unfold triT at t1
  refine lv_aload_n hx hb dX6_asks_15 rfl (lv_lk hl rfl) ?_
  refine lv_iload_n hx hb dX6_asks_16 rfl (lv_lk hl rfl) ?_
  refine iv_iconst hx hb dX6_asks_17 ?_
  refine call_S (va_runV ⟨hx, hb, hml, hown, hts⟩ (m_X6_of l E ρ th rc tl pa kd nm s1 hi ke tx wy1 r 0 hr (by decide)) (cwV 2 hts (gi_V ml_X6_61 im_X6_of sl_X6_of it_X6 cd_X6_of) rfl rfl rfl (by decide +kernel) ⟨Nat.le_of_ble_eq_true rfl, Nat.le_of_ble_eq_true rfl⟩) (pR_V (q0 := 0) (ci := 6) hP hK rfl rfl) rfl rfl hl.1 rfl (lv_room (Nat.le_of_ble_eq_true rfl)) dX6_asks_18 ⟨Nat.le_of_ble_eq_true rfl, Nat.le_of_ble_eq_true rfl⟩) (fun _ h => h) hS rfl (fun locs hS => ?_)
  refine iv_eq (s1 (36 + 6 * r)) (rfl) ?_
  refine iv_if_eq (tgt := 28) hx hb dX6_asks_21 (by decide) (by omega) (fun c_21 => ?_) (fun c_21 => ?_)
  · refine iv_iconst hx hb dX6_asks_28 ?_
    refine lv_istore_n (lv' := [(3, .int (I _)), (2, .int (I _)), (0, .ref _), (1, .int (I _))]) hx hb dX6_asks_29 rfl hl (by decide) rfl (fun ls hl => ?_)
    refine lv_aload_n hx hb dX6_asks_30 rfl (lv_lk hl rfl) ?_
    refine lv_iload_n hx hb dX6_asks_31 rfl (lv_lk hl rfl) ?_
    refine iv_iconst hx hb dX6_asks_32 ?_
    refine lv_iload_n hx hb dX6_asks_33 rfl (lv_lk hl rfl) ?_
    refine iv_if_eq (tgt := 46) hx hb dX6_asks_34 (by decide) (by omega) (fun c_34 => ?_) (fun c_34 => by exfalso; omega)
    refine iv_iconst hx hb dX6_asks_46 ?_
    refine call_F (va_runV ⟨hx, hb, hml, hown, hts⟩ (m_X6_puts l E ρ th rc tl pa kd nm s1 hi ke tx wy1 hρ r 3 _ hr (by decide)) (cwV 3 hts (gi_V ml_X6_29 im_X6_puts sl_X6_puts it_X6 cd_X6_puts) rfl rfl rfl (by decide +kernel) ⟨Nat.le_of_ble_eq_true rfl, Nat.le_of_ble_eq_true rfl⟩) (pR_V (q0 := 0) (ci := 6) hP hK rfl rfl) rfl rfl hl.1 rfl (lv_room (Nat.le_of_ble_eq_true rfl)) dX6_asks_47 ⟨Nat.le_of_ble_eq_true rfl, Nat.le_of_ble_eq_true rfl⟩) (dm hD rfl) hS rfl (fun H locs hP hS => ?_)
    have hP : va_P E.1 vwCl (refW E ρ th rc tl pa kd nm (hold1 s1 r) hi ke tx wy1) H := (by rw [hold1, if_pos c_21]; exact hP)
    refine lv_aload_n hx hb dX6_asks_50 rfl (lv_lk hl rfl) ?_
    refine lv_iload_n hx hb dX6_asks_51 rfl (lv_lk hl rfl) ?_
    refine iv_iconst hx hb dX6_asks_52 ?_
    refine lv_aload_n hx hb dX6_asks_53 rfl (lv_lk hl rfl) ?_
    refine lv_iload_n hx hb dX6_asks_54 rfl (lv_lk hl rfl) ?_
    refine iv_iconst hx hb dX6_asks_55 ?_
    refine call_S (va_runV ⟨hx, hb, hml, hown, hts⟩ (m_X6_of l E ρ th rc tl pa kd nm (hold1 s1 r) hi ke tx wy1 r 1 hr (by decide)) (cwV 2 hts (gi_V ml_X6_61 im_X6_of sl_X6_of it_X6 cd_X6_of) rfl rfl rfl (by decide +kernel) ⟨Nat.le_of_ble_eq_true rfl, Nat.le_of_ble_eq_true rfl⟩) (pR_V (q0 := 0) (ci := 6) hP hK rfl rfl) rfl rfl hl.1 rfl (lv_room (Nat.le_of_ble_eq_true rfl)) dX6_asks_56 ⟨Nat.le_of_ble_eq_true rfl, Nat.le_of_ble_eq_true rfl⟩) (fun _ h => h) hS rfl (fun locs hS => ?_)
    refine call_F (va_runV ⟨hx, hb, hml, hown, hts⟩ (m_X6_puts l E ρ th rc tl pa kd nm (hold1 s1 r) hi ke tx wy1 hρ r 4 _ hr (by decide)) (cwV 3 hts (gi_V ml_X6_29 im_X6_puts sl_X6_puts it_X6 cd_X6_puts) rfl rfl rfl (by decide +kernel) ⟨Nat.le_of_ble_eq_true rfl, Nat.le_of_ble_eq_true rfl⟩) (pR_V (q0 := 0) (ci := 6) hP hK rfl rfl) rfl rfl hl.1 rfl (lv_room (Nat.le_of_ble_eq_true rfl)) dX6_asks_59 ⟨Nat.le_of_ble_eq_true rfl, Nat.le_of_ble_eq_true rfl⟩) (dm hD rfl) hS rfl (fun H locs hP hS => ?_)
    have hP : va_P E.1 vwCl (refW E ρ th rc tl pa kd nm (hold2 s1 r) hi ke tx wy1) H := hP
    refine lv_aload_n hx hb dX6_asks_62 rfl (lv_lk hl rfl) ?_
    refine lv_iload_n hx hb dX6_asks_63 rfl (lv_lk hl rfl) ?_
    refine iv_iconst hx hb dX6_asks_64 ?_
    refine lv_aload_n hx hb dX6_asks_65 rfl (lv_lk hl rfl) ?_
    refine va_get (D := E.1) (ci := 6) hx hb hts inX6 hown hK.1 hP 0 rfl rfl 1 (by decide) (hts _ fl_X6_7) (fun _ h9 => h9) rfl dX6_asks_66 ?_
    refine iv_iconst hx hb dX6_asks_69 ?_
    refine iv_iald hx hb hK hP 1 rfl (0) (by omega) (by omega) dX6_asks_70 ?_
    refine lv_iload_n hx hb dX6_asks_71 rfl (lv_lk hl rfl) ?_
    refine iv_if_eq (tgt := 84) hx hb dX6_asks_72 (by decide) (by omega) (fun c_72 => ?_) (fun c_72 => by exfalso; omega)
    refine lv_aload_n hx hb dX6_asks_84 rfl (lv_lk hl rfl) ?_
    refine lv_iload_n hx hb dX6_asks_85 rfl (lv_lk hl rfl) ?_
    refine iv_iconst hx hb dX6_asks_86 ?_
    refine call_S (va_runV ⟨hx, hb, hml, hown, hts⟩ (m_X6_ofZone l E ρ th rc tl pa kd nm (hold2 s1 r) hi ke tx wy1 (r / 6) 2 (by omega) (by decide)) (cwV 2 hts (gi_V ml_X6_50 im_X6_ofZone sl_X6_ofZone it_X6 cd_X6_ofZone) rfl rfl rfl (by decide +kernel) ⟨Nat.le_of_ble_eq_true rfl, Nat.le_of_ble_eq_true rfl⟩) (pR_V (q0 := 0) (ci := 6) hP hK rfl rfl) rfl rfl hl.1 rfl (lv_room (Nat.le_of_ble_eq_true rfl)) dX6_asks_87 ⟨Nat.le_of_ble_eq_true rfl, Nat.le_of_ble_eq_true rfl⟩) (fun _ h => h) hS rfl (fun locs hS => ?_)
    refine iv_iadd hx hb dX6_asks_90 ?_
    refine call_F (va_runV ⟨hx, hb, hml, hown, hts⟩ (m_X6_puts l E ρ th rc tl pa kd nm (hold2 s1 r) hi ke tx wy1 hρ r 5 _ hr (by decide)) (cwV 3 hts (gi_V ml_X6_29 im_X6_puts sl_X6_puts it_X6 cd_X6_puts) rfl rfl rfl (by decide +kernel) ⟨Nat.le_of_ble_eq_true rfl, Nat.le_of_ble_eq_true rfl⟩) (pR_V (q0 := 0) (ci := 6) hP hK rfl rfl) rfl rfl hl.1 rfl (lv_room (Nat.le_of_ble_eq_true rfl)) dX6_asks_91 ⟨Nat.le_of_ble_eq_true rfl, Nat.le_of_ble_eq_true rfl⟩) (dm hD rfl) hS rfl (fun H locs hP hS => ?_)
    have hP : va_P E.1 vwCl (refW E ρ th rc tl pa kd nm (hold3 s1 r (r / 6)) hi ke tx wy1) H := (by rw [hold3, if_pos c_21]; exact hP)
    refine lv_aload_n hx hb dX6_asks_94 rfl (lv_lk hl rfl) ?_
    refine va_get (D := E.1) (ci := 6) hx hb hts inX6 hown hK.1 hP 0 rfl rfl 1 (by decide) (hts _ fl_X6_7) (fun _ h9 => h9) rfl dX6_asks_95 ?_
    refine iv_iconst hx hb dX6_asks_98 ?_
    refine lv_dup2_11 hx hb dX6_asks_99 rfl rfl ?_
    refine iv_iald hx hb hK hP 1 rfl (4) (by omega) (by omega) dX6_asks_100 ?_
    refine iv_iconst hx hb dX6_asks_101 ?_
    refine iv_iadd hx hb dX6_asks_102 ?_
    refine iv_iast hx hb hK hP (dm hD rfl) hS 1 rfl (4) (by omega) (by omega) dX6_asks_103 (refW E ρ th rc tl pa kd nm (hold s1 r (r / 6)) hi ke tx wy1) (rfl) (fun H locs hP hS => ?_)
    exact W.vret hx hb hrt (fun t ht hW => ⟨rfl, ⟨wy1, by rw [ht]; exact (by rw [asks, ← hs1]; exact hP)⟩, hS.F ht⟩) hS.2.2 dX6_asks_104 hlocks
  · refine iv_iconst hx hb dX6_asks_24 ?_
    refine lv_goto (tgt := 29) hx hb dX6_asks_25 (by decide) ?_
    refine lv_istore_n (lv' := [(3, .int (I _)), (2, .int (I _)), (0, .ref _), (1, .int (I _))]) hx hb dX6_asks_29 rfl hl (by decide) rfl (fun ls hl => ?_)
    refine lv_aload_n hx hb dX6_asks_30 rfl (lv_lk hl rfl) ?_
    refine lv_iload_n hx hb dX6_asks_31 rfl (lv_lk hl rfl) ?_
    refine iv_iconst hx hb dX6_asks_32 ?_
    refine lv_iload_n hx hb dX6_asks_33 rfl (lv_lk hl rfl) ?_
    refine iv_if_eq (tgt := 46) hx hb dX6_asks_34 (by decide) (by omega) (fun c_34 => by exfalso; omega) (fun c_34 => ?_)
    refine lv_aload_n hx hb dX6_asks_37 rfl (lv_lk hl rfl) ?_
    refine lv_iload_n hx hb dX6_asks_38 rfl (lv_lk hl rfl) ?_
    refine iv_iconst hx hb dX6_asks_39 ?_
    refine call_S (va_runV ⟨hx, hb, hml, hown, hts⟩ (m_X6_of l E ρ th rc tl pa kd nm s1 hi ke tx wy1 r 0 hr (by decide)) (cwV 2 hts (gi_V ml_X6_61 im_X6_of sl_X6_of it_X6 cd_X6_of) rfl rfl rfl (by decide +kernel) ⟨Nat.le_of_ble_eq_true rfl, Nat.le_of_ble_eq_true rfl⟩) (pR_V (q0 := 0) (ci := 6) hP hK rfl rfl) rfl rfl hl.1 rfl (lv_room (Nat.le_of_ble_eq_true rfl)) dX6_asks_40 ⟨Nat.le_of_ble_eq_true rfl, Nat.le_of_ble_eq_true rfl⟩) (fun _ h => h) hS rfl (fun locs hS => ?_)
    refine lv_goto (tgt := 47) hx hb dX6_asks_43 (by decide) ?_
    refine call_F (va_runV ⟨hx, hb, hml, hown, hts⟩ (m_X6_puts l E ρ th rc tl pa kd nm s1 hi ke tx wy1 hρ r 3 _ hr (by decide)) (cwV 3 hts (gi_V ml_X6_29 im_X6_puts sl_X6_puts it_X6 cd_X6_puts) rfl rfl rfl (by decide +kernel) ⟨Nat.le_of_ble_eq_true rfl, Nat.le_of_ble_eq_true rfl⟩) (pR_V (q0 := 0) (ci := 6) hP hK rfl rfl) rfl rfl hl.1 rfl (lv_room (Nat.le_of_ble_eq_true rfl)) dX6_asks_47 ⟨Nat.le_of_ble_eq_true rfl, Nat.le_of_ble_eq_true rfl⟩) (dm hD rfl) hS rfl (fun H locs hP hS => ?_)
    have hP : va_P E.1 vwCl (refW E ρ th rc tl pa kd nm (hold1 s1 r) hi ke tx wy1) H := (by rw [hold1, if_neg c_21]; exact hP)
    refine lv_aload_n hx hb dX6_asks_50 rfl (lv_lk hl rfl) ?_
    refine lv_iload_n hx hb dX6_asks_51 rfl (lv_lk hl rfl) ?_
    refine iv_iconst hx hb dX6_asks_52 ?_
    refine lv_aload_n hx hb dX6_asks_53 rfl (lv_lk hl rfl) ?_
    refine lv_iload_n hx hb dX6_asks_54 rfl (lv_lk hl rfl) ?_
    refine iv_iconst hx hb dX6_asks_55 ?_
    refine call_S (va_runV ⟨hx, hb, hml, hown, hts⟩ (m_X6_of l E ρ th rc tl pa kd nm (hold1 s1 r) hi ke tx wy1 r 1 hr (by decide)) (cwV 2 hts (gi_V ml_X6_61 im_X6_of sl_X6_of it_X6 cd_X6_of) rfl rfl rfl (by decide +kernel) ⟨Nat.le_of_ble_eq_true rfl, Nat.le_of_ble_eq_true rfl⟩) (pR_V (q0 := 0) (ci := 6) hP hK rfl rfl) rfl rfl hl.1 rfl (lv_room (Nat.le_of_ble_eq_true rfl)) dX6_asks_56 ⟨Nat.le_of_ble_eq_true rfl, Nat.le_of_ble_eq_true rfl⟩) (fun _ h => h) hS rfl (fun locs hS => ?_)
    refine call_F (va_runV ⟨hx, hb, hml, hown, hts⟩ (m_X6_puts l E ρ th rc tl pa kd nm (hold1 s1 r) hi ke tx wy1 hρ r 4 _ hr (by decide)) (cwV 3 hts (gi_V ml_X6_29 im_X6_puts sl_X6_puts it_X6 cd_X6_puts) rfl rfl rfl (by decide +kernel) ⟨Nat.le_of_ble_eq_true rfl, Nat.le_of_ble_eq_true rfl⟩) (pR_V (q0 := 0) (ci := 6) hP hK rfl rfl) rfl rfl hl.1 rfl (lv_room (Nat.le_of_ble_eq_true rfl)) dX6_asks_59 ⟨Nat.le_of_ble_eq_true rfl, Nat.le_of_ble_eq_true rfl⟩) (dm hD rfl) hS rfl (fun H locs hP hS => ?_)
    have hP : va_P E.1 vwCl (refW E ρ th rc tl pa kd nm (hold2 s1 r) hi ke tx wy1) H := hP
    refine lv_aload_n hx hb dX6_asks_62 rfl (lv_lk hl rfl) ?_
    refine lv_iload_n hx hb dX6_asks_63 rfl (lv_lk hl rfl) ?_
    refine iv_iconst hx hb dX6_asks_64 ?_
    refine lv_aload_n hx hb dX6_asks_65 rfl (lv_lk hl rfl) ?_
    refine va_get (D := E.1) (ci := 6) hx hb hts inX6 hown hK.1 hP 0 rfl rfl 1 (by decide) (hts _ fl_X6_7) (fun _ h9 => h9) rfl dX6_asks_66 ?_
    refine iv_iconst hx hb dX6_asks_69 ?_
    refine iv_iald hx hb hK hP 1 rfl (0) (by omega) (by omega) dX6_asks_70 ?_
    refine lv_iload_n hx hb dX6_asks_71 rfl (lv_lk hl rfl) ?_
    refine iv_if_eq (tgt := 84) hx hb dX6_asks_72 (by decide) (by omega) (fun c_72 => by exfalso; omega) (fun c_72 => ?_)
    refine lv_aload_n hx hb dX6_asks_75 rfl (lv_lk hl rfl) ?_
    refine lv_iload_n hx hb dX6_asks_76 rfl (lv_lk hl rfl) ?_
    refine iv_iconst hx hb dX6_asks_77 ?_
    refine call_S (va_runV ⟨hx, hb, hml, hown, hts⟩ (m_X6_of l E ρ th rc tl pa kd nm (hold2 s1 r) hi ke tx wy1 r 2 hr (by decide)) (cwV 2 hts (gi_V ml_X6_61 im_X6_of sl_X6_of it_X6 cd_X6_of) rfl rfl rfl (by decide +kernel) ⟨Nat.le_of_ble_eq_true rfl, Nat.le_of_ble_eq_true rfl⟩) (pR_V (q0 := 0) (ci := 6) hP hK rfl rfl) rfl rfl hl.1 rfl (lv_room (Nat.le_of_ble_eq_true rfl)) dX6_asks_78 ⟨Nat.le_of_ble_eq_true rfl, Nat.le_of_ble_eq_true rfl⟩) (fun _ h => h) hS rfl (fun locs hS => ?_)
    refine lv_goto (tgt := 90) hx hb dX6_asks_81 (by decide) ?_
    refine iv_iadd hx hb dX6_asks_90 ?_
    refine call_F (va_runV ⟨hx, hb, hml, hown, hts⟩ (m_X6_puts l E ρ th rc tl pa kd nm (hold2 s1 r) hi ke tx wy1 hρ r 5 _ hr (by decide)) (cwV 3 hts (gi_V ml_X6_29 im_X6_puts sl_X6_puts it_X6 cd_X6_puts) rfl rfl rfl (by decide +kernel) ⟨Nat.le_of_ble_eq_true rfl, Nat.le_of_ble_eq_true rfl⟩) (pR_V (q0 := 0) (ci := 6) hP hK rfl rfl) rfl rfl hl.1 rfl (lv_room (Nat.le_of_ble_eq_true rfl)) dX6_asks_91 ⟨Nat.le_of_ble_eq_true rfl, Nat.le_of_ble_eq_true rfl⟩) (dm hD rfl) hS rfl (fun H locs hP hS => ?_)
    have hP : va_P E.1 vwCl (refW E ρ th rc tl pa kd nm (hold3 s1 r (r / 6)) hi ke tx wy1) H := (by rw [hold3, if_neg c_21]; exact hP)
    refine lv_aload_n hx hb dX6_asks_94 rfl (lv_lk hl rfl) ?_
    refine va_get (D := E.1) (ci := 6) hx hb hts inX6 hown hK.1 hP 0 rfl rfl 1 (by decide) (hts _ fl_X6_7) (fun _ h9 => h9) rfl dX6_asks_95 ?_
    refine iv_iconst hx hb dX6_asks_98 ?_
    refine lv_dup2_11 hx hb dX6_asks_99 rfl rfl ?_
    refine iv_iald hx hb hK hP 1 rfl (4) (by omega) (by omega) dX6_asks_100 ?_
    refine iv_iconst hx hb dX6_asks_101 ?_
    refine iv_iadd hx hb dX6_asks_102 ?_
    refine iv_iast hx hb hK hP (dm hD rfl) hS 1 rfl (4) (by omega) (by omega) dX6_asks_103 (refW E ρ th rc tl pa kd nm (hold s1 r (r / 6)) hi ke tx wy1) (rfl) (fun H locs hP hS => ?_)
    exact W.vret hx hb hrt (fun t ht hW => ⟨rfl, ⟨wy1, by rw [ht]; exact (by rw [asks, ← hs1]; exact hP)⟩, hS.F ht⟩) hS.2.2 dX6_asks_104 hlocks
set_option maxHeartbeats 4000000 in
set_option maxRecDepth 100000 in
theorem m_X6_solves (l : Launch) (E : Env3) (ρ : Nat → Nat) (th rc tl pa kd nm : Int) (st hi ke tx wy : S) (hρ : dR ρ 6) (T : Int) (hI : IB T st) (r : Nat) (hr : r < 36) : Met l yX6_solves (Cond.code yX6_solves cX6_solves 4 (some .int) :: ALL) ({ frames := 4, cells := 0, slots := 0, locals := 91 }) (pR [.ref (ρ 0), .int (I (r : Int))] E (refW E ρ th rc tl pa kd nm st hi ke tx wy)) (qX (some (.int (I (solvesF 7 st r).2))) E (refW E ρ th rc tl pa kd nm st hi ke tx wy) (fun wy => (refW E ρ th rc tl pa kd nm ((solvesF 7 st r).1) hi ke tx wy))) 0 0 (adIn (refW E ρ th rc tl pa kd nm st hi ke tx wy)) := by
  refine mk_met (by decide) rfl (Nat.le_of_ble_eq_true rfl) ?_
  intro p e s m args below meth c hx hb hrt hml hts hown hlocks hnm hP hK ls hl
  have hown : s.vm.findClass RX6 = some m.cls := hown
  have hl : lv_has ls 4 [(0, .ref (ρ 0)), (1, .int (I (r : Int)))] := hl
  have hD : va_D (adIn (refW E ρ th rc tl pa kd nm st hi ke tx wy)) (refW E ρ th rc tl pa kd nm st hi ke tx wy) := D_of_dR hρ rfl
  have hS : va_S (adIn (refW E ρ th rc tl pa kd nm st hi ke tx wy)) s.heap s.heap [] := va_S.rf
  refine lv_iload_n hx hb dX6_solves_0 rfl (lv_lk hl rfl) ?_
  refine lv_istore_n (lv' := [(2, .int (I _)), (0, .ref _), (1, .int (I _))]) hx hb dX6_solves_1 rfl hl (by decide) rfl (fun ls hl => ?_)
  refine iv_iconst hx hb dX6_solves_2 ?_
  refine lv_istore_n (lv' := [(3, .int (I _)), (2, .int (I _)), (0, .ref _), (1, .int (I _))]) hx hb dX6_solves_3 rfl hl (by decide) rfl (fun ls hl => ?_)
  have LOOP4 : ∀ (n9 i : Nat) (s1 : S) (q : Nat) (wy1 : S), (IB T s1) → (q < 36) → (i + n9 = 6) → (solvesF (n9 + 1) s1 q = solvesF 7 st r) → ∀ (H : Heap) (locs : List Loc) (ls : Array Slot), va_P E.1 vwCl (refW E ρ th rc tl pa kd nm s1 hi ke tx wy1) H → va_S (adIn (refW E ρ th rc tl pa kd nm st hi ke tx wy)) s.heap H locs → lv_has ls 4 [(0, .ref (ρ 0)), (1, .int (I (r : Int))), (2, .int (I (q : Int))), (3, .int (I (i : Int)))] → W p l e ({ frames := 4, cells := 0, slots := 0, locals := 91 }) s m args below meth c H locs 0 0 (MQ below (qX (some (.int (I (solvesF 7 st r).2))) E (refW E ρ th rc tl pa kd nm st hi ke tx wy) (fun wy => (refW E ρ th rc tl pa kd nm ((solvesF 7 st r).1) hi ke tx wy))) args s 0 0 (adIn (refW E ρ th rc tl pa kd nm st hi ke tx wy))) (F0 m 4 ls []) := by
    intro n9
    induction n9 with
    | zero =>
      intro  i s1 q wy1 hI1 hq hi9 he9 H locs ls hP hS hl
      have t3 := (hI1.2.2.2 q hq).2
      unfold triM at t3
      have hI2 : IB T (take s1 q) := IB_take hI1 hq
      have t4 := (hI2.2.2.2 q hq).2
      unfold triM at t4
      refine lv_aload_n hx hb dX6_solves_4 rfl (lv_lk hl rfl) ?_
      refine lv_iload_n hx hb dX6_solves_5 rfl (lv_lk hl rfl) ?_
      refine iv_iconst hx hb dX6_solves_6 ?_
      refine call_S (va_runV ⟨hx, hb, hml, hown, hts⟩ (m_X6_of l E ρ th rc tl pa kd nm s1 hi ke tx wy1 q 3 hq (by decide)) (cwV 2 hts (gi_V ml_X6_61 im_X6_of sl_X6_of it_X6 cd_X6_of) rfl rfl rfl (by decide +kernel) ⟨Nat.le_of_ble_eq_true rfl, Nat.le_of_ble_eq_true rfl⟩) (pR_V (q0 := 0) (ci := 6) hP hK rfl rfl) rfl rfl hl.1 rfl (lv_room (Nat.le_of_ble_eq_true rfl)) dX6_solves_7 ⟨Nat.le_of_ble_eq_true rfl, Nat.le_of_ble_eq_true rfl⟩) (fun _ h => h) hS rfl (fun locs hS => ?_)
      refine iv_if_ne (tgt := 21) hx hb dX6_solves_10 (by decide) (by omega) (fun c_10 => ?_) (fun c_10 => ?_)
      · refine lv_aload_n hx hb dX6_solves_21 rfl (lv_lk hl rfl) ?_
        refine va_get (D := E.1) (ci := 6) hx hb hts inX6 hown hK.1 hP 0 rfl rfl 1 (by decide) (hts _ fl_X6_7) (fun _ h9 => h9) rfl dX6_solves_22 ?_
        refine iv_iconst hx hb dX6_solves_25 ?_
        refine lv_dup2_11 hx hb dX6_solves_26 rfl rfl ?_
        refine iv_iald hx hb hK hP 1 rfl (3) (by omega) (by omega) dX6_solves_27 ?_
        refine iv_iconst hx hb dX6_solves_28 ?_
        refine iv_iadd hx hb dX6_solves_29 ?_
        refine iv_iast hx hb hK hP (dm hD rfl) hS 1 rfl (3) (by omega) (by omega) dX6_solves_30 (refW E ρ th rc tl pa kd nm (up s1 3 (s1 3 + 1)) hi ke tx wy1) (rfl) (fun H locs hP hS => ?_)
        have hP : va_P E.1 vwCl (refW E ρ th rc tl pa kd nm (take s1 q) hi ke tx wy1) H := (by rw [take, if_neg c_10]; exact hP)
        refine lv_aload_n hx hb dX6_solves_31 rfl (lv_lk hl rfl) ?_
        refine lv_iload_n hx hb dX6_solves_32 rfl (lv_lk hl rfl) ?_
        refine iv_iconst hx hb dX6_solves_33 ?_
        refine call_S (va_runV ⟨hx, hb, hml, hown, hts⟩ (m_X6_of l E ρ th rc tl pa kd nm (take s1 q) hi ke tx wy1 q 3 hq (by decide)) (cwV 2 hts (gi_V ml_X6_61 im_X6_of sl_X6_of it_X6 cd_X6_of) rfl rfl rfl (by decide +kernel) ⟨Nat.le_of_ble_eq_true rfl, Nat.le_of_ble_eq_true rfl⟩) (pR_V (q0 := 0) (ci := 6) hP hK rfl rfl) rfl rfl hl.1 rfl (lv_room (Nat.le_of_ble_eq_true rfl)) dX6_solves_34 ⟨Nat.le_of_ble_eq_true rfl, Nat.le_of_ble_eq_true rfl⟩) (fun _ h => h) hS rfl (fun locs hS => ?_)
        refine iv_iconst hx hb dX6_solves_37 ?_
        refine iv_icmp_eq (tgt := 62) hx hb dX6_solves_38 (by decide) (by omega) (by omega) (fun c_38 => ?_) (fun c_38 => ?_)
        · refine lv_iload_n hx hb dX6_solves_62 rfl (lv_lk hl rfl) ?_
          refine iv_bipush hx hb dX6_solves_63 (by decide +kernel) ?_
          refine iv_icmp_ne (tgt := 71) hx hb dX6_solves_65 (by decide) (by omega) (by omega) (fun c_65 => by exfalso; omega) (fun c_65 => ?_)
          refine iv_bipush hx hb dX6_solves_68 (by decide +kernel) ?_
          refine iv_eq ((solvesF 7 st r).2) (by rw [← he9, solvesF, if_pos c_38]; rfl) ?_
          exact W.iret hx hb hrt (fun t ht hW => ⟨rfl, ⟨wy1, by rw [ht]; exact (by rw [← he9, solvesF, if_pos c_38]; exact hP)⟩, hS.F ht⟩) hS.2.2 dX6_solves_70 hlocks
        · refine lv_aload_n hx hb dX6_solves_41 rfl (lv_lk hl rfl) ?_
          refine lv_iload_n hx hb dX6_solves_42 rfl (lv_lk hl rfl) ?_
          refine iv_iconst hx hb dX6_solves_43 ?_
          refine call_S (va_runV ⟨hx, hb, hml, hown, hts⟩ (m_X6_of l E ρ th rc tl pa kd nm (take s1 q) hi ke tx wy1 q 3 hq (by decide)) (cwV 2 hts (gi_V ml_X6_61 im_X6_of sl_X6_of it_X6 cd_X6_of) rfl rfl rfl (by decide +kernel) ⟨Nat.le_of_ble_eq_true rfl, Nat.le_of_ble_eq_true rfl⟩) (pR_V (q0 := 0) (ci := 6) hP hK rfl rfl) rfl rfl hl.1 rfl (lv_room (Nat.le_of_ble_eq_true rfl)) dX6_solves_44 ⟨Nat.le_of_ble_eq_true rfl, Nat.le_of_ble_eq_true rfl⟩) (fun _ h => h) hS rfl (fun locs hS => ?_)
          refine iv_iconst hx hb dX6_solves_47 ?_
          refine iv_icmp_ne (tgt := 60) hx hb dX6_solves_48 (by decide) (by omega) (by omega) (fun c_48 => ?_) (fun c_48 => ?_)
          · refine iv_iconst hx hb dX6_solves_60 ?_
            refine iv_eq ((solvesF 7 st r).2) (by rw [← he9, solvesF, if_neg c_38]; exact (if_neg c_48).symm) ?_
            exact W.iret hx hb hrt (fun t ht hW => ⟨rfl, ⟨wy1, by rw [ht]; exact (by rw [← he9, solvesF, if_neg c_38]; exact hP)⟩, hS.F ht⟩) hS.2.2 dX6_solves_61 hlocks
          · refine lv_aload_n hx hb dX6_solves_51 rfl (lv_lk hl rfl) ?_
            refine lv_iload_n hx hb dX6_solves_52 rfl (lv_lk hl rfl) ?_
            refine iv_iconst hx hb dX6_solves_53 ?_
            refine call_S (va_runV ⟨hx, hb, hml, hown, hts⟩ (m_X6_of l E ρ th rc tl pa kd nm (take s1 q) hi ke tx wy1 q 4 hq (by decide)) (cwV 2 hts (gi_V ml_X6_61 im_X6_of sl_X6_of it_X6 cd_X6_of) rfl rfl rfl (by decide +kernel) ⟨Nat.le_of_ble_eq_true rfl, Nat.le_of_ble_eq_true rfl⟩) (pR_V (q0 := 0) (ci := 6) hP hK rfl rfl) rfl rfl hl.1 rfl (lv_room (Nat.le_of_ble_eq_true rfl)) dX6_solves_54 ⟨Nat.le_of_ble_eq_true rfl, Nat.le_of_ble_eq_true rfl⟩) (fun _ h => h) hS rfl (fun locs hS => ?_)
            refine lv_goto (tgt := 61) hx hb dX6_solves_57 (by decide) ?_
            refine iv_eq ((solvesF 7 st r).2) (by rw [← he9, solvesF, if_neg c_38]; exact (if_pos c_48).symm) ?_
            exact W.iret hx hb hrt (fun t ht hW => ⟨rfl, ⟨wy1, by rw [ht]; exact (by rw [← he9, solvesF, if_neg c_38]; exact hP)⟩, hS.F ht⟩) hS.2.2 dX6_solves_61 hlocks
      · refine lv_aload_n hx hb dX6_solves_13 rfl (lv_lk hl rfl) ?_
        refine lv_iload_n hx hb dX6_solves_14 rfl (lv_lk hl rfl) ?_
        refine call_X (va_runV ⟨hx, hb, hml, hown, hts⟩ (m_X6_asks l E ρ th rc tl pa kd nm s1 hi ke tx wy1 hρ T hI1 q hq) (cwV 1 hts (gi_V ml_X6_78 im_X6_asks sl_X6_asks it_X6 cd_X6_asks) rfl rfl rfl (by decide +kernel) ⟨Nat.le_of_ble_eq_true rfl, Nat.le_of_ble_eq_true rfl⟩) (pR_V (q0 := 0) (ci := 6) hP hK rfl rfl) rfl rfl hl.1 rfl (lv_room (Nat.le_of_ble_eq_true rfl)) dX6_solves_15 ⟨Nat.le_of_ble_eq_true rfl, Nat.le_of_ble_eq_true rfl⟩) (dm hD rfl) hS rfl (fun wy2 H locs hP hS => ?_)
        have hP : va_P E.1 vwCl (refW E ρ th rc tl pa kd nm (take s1 q) hi ke tx wy2) H := (by rw [take, if_pos c_10]; exact hP)
        refine lv_goto (tgt := 31) hx hb dX6_solves_18 (by decide) ?_
        refine lv_aload_n hx hb dX6_solves_31 rfl (lv_lk hl rfl) ?_
        refine lv_iload_n hx hb dX6_solves_32 rfl (lv_lk hl rfl) ?_
        refine iv_iconst hx hb dX6_solves_33 ?_
        refine call_S (va_runV ⟨hx, hb, hml, hown, hts⟩ (m_X6_of l E ρ th rc tl pa kd nm (take s1 q) hi ke tx wy2 q 3 hq (by decide)) (cwV 2 hts (gi_V ml_X6_61 im_X6_of sl_X6_of it_X6 cd_X6_of) rfl rfl rfl (by decide +kernel) ⟨Nat.le_of_ble_eq_true rfl, Nat.le_of_ble_eq_true rfl⟩) (pR_V (q0 := 0) (ci := 6) hP hK rfl rfl) rfl rfl hl.1 rfl (lv_room (Nat.le_of_ble_eq_true rfl)) dX6_solves_34 ⟨Nat.le_of_ble_eq_true rfl, Nat.le_of_ble_eq_true rfl⟩) (fun _ h => h) hS rfl (fun locs hS => ?_)
        refine iv_iconst hx hb dX6_solves_37 ?_
        refine iv_icmp_eq (tgt := 62) hx hb dX6_solves_38 (by decide) (by omega) (by omega) (fun c_38 => ?_) (fun c_38 => ?_)
        · refine lv_iload_n hx hb dX6_solves_62 rfl (lv_lk hl rfl) ?_
          refine iv_bipush hx hb dX6_solves_63 (by decide +kernel) ?_
          refine iv_icmp_ne (tgt := 71) hx hb dX6_solves_65 (by decide) (by omega) (by omega) (fun c_65 => by exfalso; omega) (fun c_65 => ?_)
          refine iv_bipush hx hb dX6_solves_68 (by decide +kernel) ?_
          refine iv_eq ((solvesF 7 st r).2) (by rw [← he9, solvesF, if_pos c_38]; rfl) ?_
          exact W.iret hx hb hrt (fun t ht hW => ⟨rfl, ⟨wy2, by rw [ht]; exact (by rw [← he9, solvesF, if_pos c_38]; exact hP)⟩, hS.F ht⟩) hS.2.2 dX6_solves_70 hlocks
        · refine lv_aload_n hx hb dX6_solves_41 rfl (lv_lk hl rfl) ?_
          refine lv_iload_n hx hb dX6_solves_42 rfl (lv_lk hl rfl) ?_
          refine iv_iconst hx hb dX6_solves_43 ?_
          refine call_S (va_runV ⟨hx, hb, hml, hown, hts⟩ (m_X6_of l E ρ th rc tl pa kd nm (take s1 q) hi ke tx wy2 q 3 hq (by decide)) (cwV 2 hts (gi_V ml_X6_61 im_X6_of sl_X6_of it_X6 cd_X6_of) rfl rfl rfl (by decide +kernel) ⟨Nat.le_of_ble_eq_true rfl, Nat.le_of_ble_eq_true rfl⟩) (pR_V (q0 := 0) (ci := 6) hP hK rfl rfl) rfl rfl hl.1 rfl (lv_room (Nat.le_of_ble_eq_true rfl)) dX6_solves_44 ⟨Nat.le_of_ble_eq_true rfl, Nat.le_of_ble_eq_true rfl⟩) (fun _ h => h) hS rfl (fun locs hS => ?_)
          refine iv_iconst hx hb dX6_solves_47 ?_
          refine iv_icmp_ne (tgt := 60) hx hb dX6_solves_48 (by decide) (by omega) (by omega) (fun c_48 => ?_) (fun c_48 => ?_)
          · refine iv_iconst hx hb dX6_solves_60 ?_
            refine iv_eq ((solvesF 7 st r).2) (by rw [← he9, solvesF, if_neg c_38]; exact (if_neg c_48).symm) ?_
            exact W.iret hx hb hrt (fun t ht hW => ⟨rfl, ⟨wy2, by rw [ht]; exact (by rw [← he9, solvesF, if_neg c_38]; exact hP)⟩, hS.F ht⟩) hS.2.2 dX6_solves_61 hlocks
          · refine lv_aload_n hx hb dX6_solves_51 rfl (lv_lk hl rfl) ?_
            refine lv_iload_n hx hb dX6_solves_52 rfl (lv_lk hl rfl) ?_
            refine iv_iconst hx hb dX6_solves_53 ?_
            refine call_S (va_runV ⟨hx, hb, hml, hown, hts⟩ (m_X6_of l E ρ th rc tl pa kd nm (take s1 q) hi ke tx wy2 q 4 hq (by decide)) (cwV 2 hts (gi_V ml_X6_61 im_X6_of sl_X6_of it_X6 cd_X6_of) rfl rfl rfl (by decide +kernel) ⟨Nat.le_of_ble_eq_true rfl, Nat.le_of_ble_eq_true rfl⟩) (pR_V (q0 := 0) (ci := 6) hP hK rfl rfl) rfl rfl hl.1 rfl (lv_room (Nat.le_of_ble_eq_true rfl)) dX6_solves_54 ⟨Nat.le_of_ble_eq_true rfl, Nat.le_of_ble_eq_true rfl⟩) (fun _ h => h) hS rfl (fun locs hS => ?_)
            refine lv_goto (tgt := 61) hx hb dX6_solves_57 (by decide) ?_
            refine iv_eq ((solvesF 7 st r).2) (by rw [← he9, solvesF, if_neg c_38]; exact (if_pos c_48).symm) ?_
            exact W.iret hx hb hrt (fun t ht hW => ⟨rfl, ⟨wy2, by rw [ht]; exact (by rw [← he9, solvesF, if_neg c_38]; exact hP)⟩, hS.F ht⟩) hS.2.2 dX6_solves_61 hlocks
    | succ n9 ih =>
      intro  i s1 q wy1 hI1 hq hi9 he9 H locs ls hP hS hl
      have t3 := (hI1.2.2.2 q hq).2
      unfold triM at t3
      have hI2 : IB T (take s1 q) := IB_take hI1 hq
      have t4 := (hI2.2.2.2 q hq).2
      unfold triM at t4
      refine lv_aload_n hx hb dX6_solves_4 rfl (lv_lk hl rfl) ?_
      refine lv_iload_n hx hb dX6_solves_5 rfl (lv_lk hl rfl) ?_
      refine iv_iconst hx hb dX6_solves_6 ?_
      refine call_S (va_runV ⟨hx, hb, hml, hown, hts⟩ (m_X6_of l E ρ th rc tl pa kd nm s1 hi ke tx wy1 q 3 hq (by decide)) (cwV 2 hts (gi_V ml_X6_61 im_X6_of sl_X6_of it_X6 cd_X6_of) rfl rfl rfl (by decide +kernel) ⟨Nat.le_of_ble_eq_true rfl, Nat.le_of_ble_eq_true rfl⟩) (pR_V (q0 := 0) (ci := 6) hP hK rfl rfl) rfl rfl hl.1 rfl (lv_room (Nat.le_of_ble_eq_true rfl)) dX6_solves_7 ⟨Nat.le_of_ble_eq_true rfl, Nat.le_of_ble_eq_true rfl⟩) (fun _ h => h) hS rfl (fun locs hS => ?_)
      refine iv_if_ne (tgt := 21) hx hb dX6_solves_10 (by decide) (by omega) (fun c_10 => ?_) (fun c_10 => ?_)
      · refine lv_aload_n hx hb dX6_solves_21 rfl (lv_lk hl rfl) ?_
        refine va_get (D := E.1) (ci := 6) hx hb hts inX6 hown hK.1 hP 0 rfl rfl 1 (by decide) (hts _ fl_X6_7) (fun _ h9 => h9) rfl dX6_solves_22 ?_
        refine iv_iconst hx hb dX6_solves_25 ?_
        refine lv_dup2_11 hx hb dX6_solves_26 rfl rfl ?_
        refine iv_iald hx hb hK hP 1 rfl (3) (by omega) (by omega) dX6_solves_27 ?_
        refine iv_iconst hx hb dX6_solves_28 ?_
        refine iv_iadd hx hb dX6_solves_29 ?_
        refine iv_iast hx hb hK hP (dm hD rfl) hS 1 rfl (3) (by omega) (by omega) dX6_solves_30 (refW E ρ th rc tl pa kd nm (up s1 3 (s1 3 + 1)) hi ke tx wy1) (rfl) (fun H locs hP hS => ?_)
        have hP : va_P E.1 vwCl (refW E ρ th rc tl pa kd nm (take s1 q) hi ke tx wy1) H := (by rw [take, if_neg c_10]; exact hP)
        refine lv_aload_n hx hb dX6_solves_31 rfl (lv_lk hl rfl) ?_
        refine lv_iload_n hx hb dX6_solves_32 rfl (lv_lk hl rfl) ?_
        refine iv_iconst hx hb dX6_solves_33 ?_
        refine call_S (va_runV ⟨hx, hb, hml, hown, hts⟩ (m_X6_of l E ρ th rc tl pa kd nm (take s1 q) hi ke tx wy1 q 3 hq (by decide)) (cwV 2 hts (gi_V ml_X6_61 im_X6_of sl_X6_of it_X6 cd_X6_of) rfl rfl rfl (by decide +kernel) ⟨Nat.le_of_ble_eq_true rfl, Nat.le_of_ble_eq_true rfl⟩) (pR_V (q0 := 0) (ci := 6) hP hK rfl rfl) rfl rfl hl.1 rfl (lv_room (Nat.le_of_ble_eq_true rfl)) dX6_solves_34 ⟨Nat.le_of_ble_eq_true rfl, Nat.le_of_ble_eq_true rfl⟩) (fun _ h => h) hS rfl (fun locs hS => ?_)
        refine iv_iconst hx hb dX6_solves_37 ?_
        refine iv_icmp_eq (tgt := 62) hx hb dX6_solves_38 (by decide) (by omega) (by omega) (fun c_38 => ?_) (fun c_38 => ?_)
        · refine lv_iload_n hx hb dX6_solves_62 rfl (lv_lk hl rfl) ?_
          refine iv_bipush hx hb dX6_solves_63 (by decide +kernel) ?_
          refine iv_icmp_ne (tgt := 71) hx hb dX6_solves_65 (by decide) (by omega) (by omega) (fun c_65 => ?_) (fun c_65 => by exfalso; omega)
          refine iv_iinc (k := 3) hx hb dX6_solves_71 hl rfl (((i + 1 : Nat) : Int)) (by omega) (by decide) [(3, .int (I _)), (0, .ref _), (1, .int (I _)), (2, .int (I _))] rfl (fun ls hl => ?_)
          refine lv_aload_n hx hb dX6_solves_74 rfl (lv_lk hl rfl) ?_
          refine lv_iload_n hx hb dX6_solves_75 rfl (lv_lk hl rfl) ?_
          refine iv_iconst hx hb dX6_solves_76 ?_
          refine call_S (va_runV ⟨hx, hb, hml, hown, hts⟩ (m_X6_of l E ρ th rc tl pa kd nm (take s1 q) hi ke tx wy1 q 4 hq (by decide)) (cwV 2 hts (gi_V ml_X6_61 im_X6_of sl_X6_of it_X6 cd_X6_of) rfl rfl rfl (by decide +kernel) ⟨Nat.le_of_ble_eq_true rfl, Nat.le_of_ble_eq_true rfl⟩) (pR_V (q0 := 0) (ci := 6) hP hK rfl rfl) rfl rfl hl.1 rfl (lv_room (Nat.le_of_ble_eq_true rfl)) dX6_solves_77 ⟨Nat.le_of_ble_eq_true rfl, Nat.le_of_ble_eq_true rfl⟩) (fun _ h => h) hS rfl (fun locs hS => ?_)
          refine iv_eq ((((take s1 q (36 + 6 * q + 4)).toNat : Nat) : Int)) ((IB_next hI2 hq c_38).1) ?_
          refine lv_istore_n (lv' := [(2, .int (I _)), (3, .int (I _)), (0, .ref _), (1, .int (I _))]) hx hb dX6_solves_80 rfl hl (by decide) rfl (fun ls hl => ?_)
          refine lv_goto (tgt := 4) hx hb dX6_solves_81 (by decide) ?_
          exact ih (i + 1) (take s1 q) (take s1 q (36 + 6 * q + 4)).toNat wy1 hI2 (IB_next hI2 hq c_38).2 (by omega) (by rw [← he9]; exact (solves_s c_38).symm) H locs ls hP hS (lv_sub hl [2, 3, 0, 1] rfl)
        · refine lv_aload_n hx hb dX6_solves_41 rfl (lv_lk hl rfl) ?_
          refine lv_iload_n hx hb dX6_solves_42 rfl (lv_lk hl rfl) ?_
          refine iv_iconst hx hb dX6_solves_43 ?_
          refine call_S (va_runV ⟨hx, hb, hml, hown, hts⟩ (m_X6_of l E ρ th rc tl pa kd nm (take s1 q) hi ke tx wy1 q 3 hq (by decide)) (cwV 2 hts (gi_V ml_X6_61 im_X6_of sl_X6_of it_X6 cd_X6_of) rfl rfl rfl (by decide +kernel) ⟨Nat.le_of_ble_eq_true rfl, Nat.le_of_ble_eq_true rfl⟩) (pR_V (q0 := 0) (ci := 6) hP hK rfl rfl) rfl rfl hl.1 rfl (lv_room (Nat.le_of_ble_eq_true rfl)) dX6_solves_44 ⟨Nat.le_of_ble_eq_true rfl, Nat.le_of_ble_eq_true rfl⟩) (fun _ h => h) hS rfl (fun locs hS => ?_)
          refine iv_iconst hx hb dX6_solves_47 ?_
          refine iv_icmp_ne (tgt := 60) hx hb dX6_solves_48 (by decide) (by omega) (by omega) (fun c_48 => ?_) (fun c_48 => ?_)
          · refine iv_iconst hx hb dX6_solves_60 ?_
            refine iv_eq ((solvesF 7 st r).2) (by rw [← he9, solvesF, if_neg c_38]; exact (if_neg c_48).symm) ?_
            exact W.iret hx hb hrt (fun t ht hW => ⟨rfl, ⟨wy1, by rw [ht]; exact (by rw [← he9, solvesF, if_neg c_38]; exact hP)⟩, hS.F ht⟩) hS.2.2 dX6_solves_61 hlocks
          · refine lv_aload_n hx hb dX6_solves_51 rfl (lv_lk hl rfl) ?_
            refine lv_iload_n hx hb dX6_solves_52 rfl (lv_lk hl rfl) ?_
            refine iv_iconst hx hb dX6_solves_53 ?_
            refine call_S (va_runV ⟨hx, hb, hml, hown, hts⟩ (m_X6_of l E ρ th rc tl pa kd nm (take s1 q) hi ke tx wy1 q 4 hq (by decide)) (cwV 2 hts (gi_V ml_X6_61 im_X6_of sl_X6_of it_X6 cd_X6_of) rfl rfl rfl (by decide +kernel) ⟨Nat.le_of_ble_eq_true rfl, Nat.le_of_ble_eq_true rfl⟩) (pR_V (q0 := 0) (ci := 6) hP hK rfl rfl) rfl rfl hl.1 rfl (lv_room (Nat.le_of_ble_eq_true rfl)) dX6_solves_54 ⟨Nat.le_of_ble_eq_true rfl, Nat.le_of_ble_eq_true rfl⟩) (fun _ h => h) hS rfl (fun locs hS => ?_)
            refine lv_goto (tgt := 61) hx hb dX6_solves_57 (by decide) ?_
            refine iv_eq ((solvesF 7 st r).2) (by rw [← he9, solvesF, if_neg c_38]; exact (if_pos c_48).symm) ?_
            exact W.iret hx hb hrt (fun t ht hW => ⟨rfl, ⟨wy1, by rw [ht]; exact (by rw [← he9, solvesF, if_neg c_38]; exact hP)⟩, hS.F ht⟩) hS.2.2 dX6_solves_61 hlocks
      · refine lv_aload_n hx hb dX6_solves_13 rfl (lv_lk hl rfl) ?_
        refine lv_iload_n hx hb dX6_solves_14 rfl (lv_lk hl rfl) ?_
        refine call_X (va_runV ⟨hx, hb, hml, hown, hts⟩ (m_X6_asks l E ρ th rc tl pa kd nm s1 hi ke tx wy1 hρ T hI1 q hq) (cwV 1 hts (gi_V ml_X6_78 im_X6_asks sl_X6_asks it_X6 cd_X6_asks) rfl rfl rfl (by decide +kernel) ⟨Nat.le_of_ble_eq_true rfl, Nat.le_of_ble_eq_true rfl⟩) (pR_V (q0 := 0) (ci := 6) hP hK rfl rfl) rfl rfl hl.1 rfl (lv_room (Nat.le_of_ble_eq_true rfl)) dX6_solves_15 ⟨Nat.le_of_ble_eq_true rfl, Nat.le_of_ble_eq_true rfl⟩) (dm hD rfl) hS rfl (fun wy2 H locs hP hS => ?_)
        have hP : va_P E.1 vwCl (refW E ρ th rc tl pa kd nm (take s1 q) hi ke tx wy2) H := (by rw [take, if_pos c_10]; exact hP)
        refine lv_goto (tgt := 31) hx hb dX6_solves_18 (by decide) ?_
        refine lv_aload_n hx hb dX6_solves_31 rfl (lv_lk hl rfl) ?_
        refine lv_iload_n hx hb dX6_solves_32 rfl (lv_lk hl rfl) ?_
        refine iv_iconst hx hb dX6_solves_33 ?_
        refine call_S (va_runV ⟨hx, hb, hml, hown, hts⟩ (m_X6_of l E ρ th rc tl pa kd nm (take s1 q) hi ke tx wy2 q 3 hq (by decide)) (cwV 2 hts (gi_V ml_X6_61 im_X6_of sl_X6_of it_X6 cd_X6_of) rfl rfl rfl (by decide +kernel) ⟨Nat.le_of_ble_eq_true rfl, Nat.le_of_ble_eq_true rfl⟩) (pR_V (q0 := 0) (ci := 6) hP hK rfl rfl) rfl rfl hl.1 rfl (lv_room (Nat.le_of_ble_eq_true rfl)) dX6_solves_34 ⟨Nat.le_of_ble_eq_true rfl, Nat.le_of_ble_eq_true rfl⟩) (fun _ h => h) hS rfl (fun locs hS => ?_)
        refine iv_iconst hx hb dX6_solves_37 ?_
        refine iv_icmp_eq (tgt := 62) hx hb dX6_solves_38 (by decide) (by omega) (by omega) (fun c_38 => ?_) (fun c_38 => ?_)
        · refine lv_iload_n hx hb dX6_solves_62 rfl (lv_lk hl rfl) ?_
          refine iv_bipush hx hb dX6_solves_63 (by decide +kernel) ?_
          refine iv_icmp_ne (tgt := 71) hx hb dX6_solves_65 (by decide) (by omega) (by omega) (fun c_65 => ?_) (fun c_65 => by exfalso; omega)
          refine iv_iinc (k := 3) hx hb dX6_solves_71 hl rfl (((i + 1 : Nat) : Int)) (by omega) (by decide) [(3, .int (I _)), (0, .ref _), (1, .int (I _)), (2, .int (I _))] rfl (fun ls hl => ?_)
          refine lv_aload_n hx hb dX6_solves_74 rfl (lv_lk hl rfl) ?_
          refine lv_iload_n hx hb dX6_solves_75 rfl (lv_lk hl rfl) ?_
          refine iv_iconst hx hb dX6_solves_76 ?_
          refine call_S (va_runV ⟨hx, hb, hml, hown, hts⟩ (m_X6_of l E ρ th rc tl pa kd nm (take s1 q) hi ke tx wy2 q 4 hq (by decide)) (cwV 2 hts (gi_V ml_X6_61 im_X6_of sl_X6_of it_X6 cd_X6_of) rfl rfl rfl (by decide +kernel) ⟨Nat.le_of_ble_eq_true rfl, Nat.le_of_ble_eq_true rfl⟩) (pR_V (q0 := 0) (ci := 6) hP hK rfl rfl) rfl rfl hl.1 rfl (lv_room (Nat.le_of_ble_eq_true rfl)) dX6_solves_77 ⟨Nat.le_of_ble_eq_true rfl, Nat.le_of_ble_eq_true rfl⟩) (fun _ h => h) hS rfl (fun locs hS => ?_)
          refine iv_eq ((((take s1 q (36 + 6 * q + 4)).toNat : Nat) : Int)) ((IB_next hI2 hq c_38).1) ?_
          refine lv_istore_n (lv' := [(2, .int (I _)), (3, .int (I _)), (0, .ref _), (1, .int (I _))]) hx hb dX6_solves_80 rfl hl (by decide) rfl (fun ls hl => ?_)
          refine lv_goto (tgt := 4) hx hb dX6_solves_81 (by decide) ?_
          exact ih (i + 1) (take s1 q) (take s1 q (36 + 6 * q + 4)).toNat wy2 hI2 (IB_next hI2 hq c_38).2 (by omega) (by rw [← he9]; exact (solves_s c_38).symm) H locs ls hP hS (lv_sub hl [2, 3, 0, 1] rfl)
        · refine lv_aload_n hx hb dX6_solves_41 rfl (lv_lk hl rfl) ?_
          refine lv_iload_n hx hb dX6_solves_42 rfl (lv_lk hl rfl) ?_
          refine iv_iconst hx hb dX6_solves_43 ?_
          refine call_S (va_runV ⟨hx, hb, hml, hown, hts⟩ (m_X6_of l E ρ th rc tl pa kd nm (take s1 q) hi ke tx wy2 q 3 hq (by decide)) (cwV 2 hts (gi_V ml_X6_61 im_X6_of sl_X6_of it_X6 cd_X6_of) rfl rfl rfl (by decide +kernel) ⟨Nat.le_of_ble_eq_true rfl, Nat.le_of_ble_eq_true rfl⟩) (pR_V (q0 := 0) (ci := 6) hP hK rfl rfl) rfl rfl hl.1 rfl (lv_room (Nat.le_of_ble_eq_true rfl)) dX6_solves_44 ⟨Nat.le_of_ble_eq_true rfl, Nat.le_of_ble_eq_true rfl⟩) (fun _ h => h) hS rfl (fun locs hS => ?_)
          refine iv_iconst hx hb dX6_solves_47 ?_
          refine iv_icmp_ne (tgt := 60) hx hb dX6_solves_48 (by decide) (by omega) (by omega) (fun c_48 => ?_) (fun c_48 => ?_)
          · refine iv_iconst hx hb dX6_solves_60 ?_
            refine iv_eq ((solvesF 7 st r).2) (by rw [← he9, solvesF, if_neg c_38]; exact (if_neg c_48).symm) ?_
            exact W.iret hx hb hrt (fun t ht hW => ⟨rfl, ⟨wy2, by rw [ht]; exact (by rw [← he9, solvesF, if_neg c_38]; exact hP)⟩, hS.F ht⟩) hS.2.2 dX6_solves_61 hlocks
          · refine lv_aload_n hx hb dX6_solves_51 rfl (lv_lk hl rfl) ?_
            refine lv_iload_n hx hb dX6_solves_52 rfl (lv_lk hl rfl) ?_
            refine iv_iconst hx hb dX6_solves_53 ?_
            refine call_S (va_runV ⟨hx, hb, hml, hown, hts⟩ (m_X6_of l E ρ th rc tl pa kd nm (take s1 q) hi ke tx wy2 q 4 hq (by decide)) (cwV 2 hts (gi_V ml_X6_61 im_X6_of sl_X6_of it_X6 cd_X6_of) rfl rfl rfl (by decide +kernel) ⟨Nat.le_of_ble_eq_true rfl, Nat.le_of_ble_eq_true rfl⟩) (pR_V (q0 := 0) (ci := 6) hP hK rfl rfl) rfl rfl hl.1 rfl (lv_room (Nat.le_of_ble_eq_true rfl)) dX6_solves_54 ⟨Nat.le_of_ble_eq_true rfl, Nat.le_of_ble_eq_true rfl⟩) (fun _ h => h) hS rfl (fun locs hS => ?_)
            refine lv_goto (tgt := 61) hx hb dX6_solves_57 (by decide) ?_
            refine iv_eq ((solvesF 7 st r).2) (by rw [← he9, solvesF, if_neg c_38]; exact (if_pos c_48).symm) ?_
            exact W.iret hx hb hrt (fun t ht hW => ⟨rfl, ⟨wy2, by rw [ht]; exact (by rw [← he9, solvesF, if_neg c_38]; exact hP)⟩, hS.F ht⟩) hS.2.2 dX6_solves_61 hlocks
  exact LOOP4 6 0 st r wy hI hr (by omega) rfl _ _ _ hP hS (lv_sub hl [2, 3, 1, 0] rfl)
set_option maxHeartbeats 4000000 in
set_option maxRecDepth 100000 in
theorem m_X6_solvesFirst (l : Launch) (E : Env3) (ρ : Nat → Nat) (th rc tl pa kd nm : Int) (st hi ke tx wy : S) (hρ : dR ρ 6) (T : Int) (hI : IB T st) (r : Nat) (hr : r < 36) : Met l yX6_solvesFirst (Cond.code yX6_solvesFirst cX6_solvesFirst 2 (some .int) :: ALL) ({ frames := 5, cells := 0, slots := 0, locals := 114 }) (pR [.ref (ρ 0), .int (I (r : Int))] E (refW E ρ th rc tl pa kd nm st hi ke tx wy)) (qX (some (.int (I (solve1 st r).2))) E (refW E ρ th rc tl pa kd nm st hi ke tx wy) (fun wy => (refW E ρ th rc tl pa kd nm ((solve1 st r).1) hi ke tx wy))) 0 0 (adIn (refW E ρ th rc tl pa kd nm st hi ke tx wy)) := by
  refine mk_met (by decide) rfl (Nat.le_of_ble_eq_true rfl) ?_
  intro p e s m args below meth c hx hb hrt hml hts hown hlocks hnm hP hK ls hl
  have hown : s.vm.findClass RX6 = some m.cls := hown
  have hl : lv_has ls 2 [(0, .ref (ρ 0)), (1, .int (I (r : Int)))] := hl
  have hD : va_D (adIn (refW E ρ th rc tl pa kd nm st hi ke tx wy)) (refW E ρ th rc tl pa kd nm st hi ke tx wy) := D_of_dR hρ rfl
  have hS : va_S (adIn (refW E ρ th rc tl pa kd nm st hi ke tx wy)) s.heap s.heap [] := va_S.rf
  refine lv_aload_n hx hb dX6_solvesFirst_0 rfl (lv_lk hl rfl) ?_
  refine va_get (D := E.1) (ci := 6) hx hb hts inX6 hown hK.1 hP 0 rfl rfl 1 (by decide) (hts _ fl_X6_7) (fun _ h9 => h9) rfl dX6_solvesFirst_1 ?_
  refine iv_iconst hx hb dX6_solvesFirst_4 ?_
  refine lv_dup2_11 hx hb dX6_solvesFirst_5 rfl rfl ?_
  refine iv_iald hx hb hK hP 1 rfl (1) (by omega) (by omega) dX6_solvesFirst_6 ?_
  refine iv_iconst hx hb dX6_solvesFirst_7 ?_
  refine iv_iadd hx hb dX6_solvesFirst_8 ?_
  refine iv_iast hx hb hK hP (dm hD rfl) hS 1 rfl (1) (by omega) (by omega) dX6_solvesFirst_9 (refW E ρ th rc tl pa kd nm (up st 1 (st 1 + 1)) hi ke tx wy) (rfl) (fun H locs hP hS => ?_)
  refine lv_aload_n hx hb dX6_solvesFirst_10 rfl (lv_lk hl rfl) ?_
  refine lv_iload_n hx hb dX6_solvesFirst_11 rfl (lv_lk hl rfl) ?_
  refine call_X (va_runV ⟨hx, hb, hml, hown, hts⟩ (m_X6_solves l E ρ th rc tl pa kd nm (up st 1 (st 1 + 1)) hi ke tx wy hρ T (IB_free hI 1 _ (by omega)) r hr) (cwV 1 hts (gi_V ml_X6_81 im_X6_solves sl_X6_solves it_X6 cd_X6_solves) rfl rfl rfl (by decide +kernel) ⟨Nat.le_of_ble_eq_true rfl, Nat.le_of_ble_eq_true rfl⟩) (pR_V (q0 := 0) (ci := 6) hP hK rfl rfl) rfl rfl hl.1 rfl (lv_room (Nat.le_of_ble_eq_true rfl)) dX6_solvesFirst_12 ⟨Nat.le_of_ble_eq_true rfl, Nat.le_of_ble_eq_true rfl⟩) (dm hD rfl) hS rfl (fun wy1 H locs hP hS => ?_)
  have hP : va_P E.1 vwCl (refW E ρ th rc tl pa kd nm ((solve1 st r).1) hi ke tx wy1) H := hP
  exact W.iret hx hb hrt (fun t ht hW => ⟨rfl, ⟨wy1, by rw [ht]; exact hP⟩, hS.F ht⟩) hS.2.2 dX6_solvesFirst_15 hlocks
set_option maxHeartbeats 4000000 in
set_option maxRecDepth 100000 in
theorem m_X6_forgets (l : Launch) (E : Env3) (ρ : Nat → Nat) (th rc tl pa kd nm : Int) (st hi ke tx wy : S) (hρ : dR ρ 6) (r : Nat) (hr : r < 36) : Met l yX6_forgets (Cond.code yX6_forgets cX6_forgets 2 none :: ALL) ({ frames := 1, cells := 0, slots := 0, locals := 23 }) (pR [.ref (ρ 0), .int (I (r : Int))] E (refW E ρ th rc tl pa kd nm st hi ke tx wy)) (qW none E (refW E ρ th rc tl pa kd nm st hi ke tx wy) (refW E ρ th rc tl pa kd nm (forg st r) hi ke tx wy)) 0 0 (adIn (refW E ρ th rc tl pa kd nm st hi ke tx wy)) := by
  refine mk_met (by decide) rfl (Nat.le_of_ble_eq_true rfl) ?_
  intro p e s m args below meth c hx hb hrt hml hts hown hlocks hnm hP hK ls hl
  have hown : s.vm.findClass RX6 = some m.cls := hown
  have hl : lv_has ls 2 [(0, .ref (ρ 0)), (1, .int (I (r : Int)))] := hl
  have hD : va_D (adIn (refW E ρ th rc tl pa kd nm st hi ke tx wy)) (refW E ρ th rc tl pa kd nm st hi ke tx wy) := D_of_dR hρ rfl
  have hS : va_S (adIn (refW E ρ th rc tl pa kd nm st hi ke tx wy)) s.heap s.heap [] := va_S.rf
  refine lv_aload_n hx hb dX6_forgets_0 rfl (lv_lk hl rfl) ?_
  refine lv_iload_n hx hb dX6_forgets_1 rfl (lv_lk hl rfl) ?_
  refine iv_iconst hx hb dX6_forgets_2 ?_
  refine iv_iconst hx hb dX6_forgets_3 ?_
  refine call_F (va_runV ⟨hx, hb, hml, hown, hts⟩ (m_X6_puts l E ρ th rc tl pa kd nm st hi ke tx wy hρ r 3 _ hr (by decide)) (cwV 3 hts (gi_V ml_X6_29 im_X6_puts sl_X6_puts it_X6 cd_X6_puts) rfl rfl rfl (by decide +kernel) ⟨Nat.le_of_ble_eq_true rfl, Nat.le_of_ble_eq_true rfl⟩) (pR_V (q0 := 0) (ci := 6) hP hK rfl rfl) rfl rfl hl.1 rfl (lv_room (Nat.le_of_ble_eq_true rfl)) dX6_forgets_4 ⟨Nat.le_of_ble_eq_true rfl, Nat.le_of_ble_eq_true rfl⟩) (dm hD rfl) hS rfl (fun H locs hP hS => ?_)
  have hP : va_P E.1 vwCl (refW E ρ th rc tl pa kd nm (up st (36 + 6 * r + 3) 0) hi ke tx wy) H := hP
  refine lv_aload_n hx hb dX6_forgets_7 rfl (lv_lk hl rfl) ?_
  refine lv_iload_n hx hb dX6_forgets_8 rfl (lv_lk hl rfl) ?_
  refine iv_iconst hx hb dX6_forgets_9 ?_
  refine iv_iconst hx hb dX6_forgets_10 ?_
  refine call_F (va_runV ⟨hx, hb, hml, hown, hts⟩ (m_X6_puts l E ρ th rc tl pa kd nm (up st (36 + 6 * r + 3) 0) hi ke tx wy hρ r 4 _ hr (by decide)) (cwV 3 hts (gi_V ml_X6_29 im_X6_puts sl_X6_puts it_X6 cd_X6_puts) rfl rfl rfl (by decide +kernel) ⟨Nat.le_of_ble_eq_true rfl, Nat.le_of_ble_eq_true rfl⟩) (pR_V (q0 := 0) (ci := 6) hP hK rfl rfl) rfl rfl hl.1 rfl (lv_room (Nat.le_of_ble_eq_true rfl)) dX6_forgets_11 ⟨Nat.le_of_ble_eq_true rfl, Nat.le_of_ble_eq_true rfl⟩) (dm hD rfl) hS rfl (fun H locs hP hS => ?_)
  have hP : va_P E.1 vwCl (refW E ρ th rc tl pa kd nm (up (up st (36 + 6 * r + 3) 0) (36 + 6 * r + 4) 0) hi ke tx wy) H := hP
  refine lv_aload_n hx hb dX6_forgets_14 rfl (lv_lk hl rfl) ?_
  refine lv_iload_n hx hb dX6_forgets_15 rfl (lv_lk hl rfl) ?_
  refine iv_iconst hx hb dX6_forgets_16 ?_
  refine iv_iconst hx hb dX6_forgets_17 ?_
  refine call_F (va_runV ⟨hx, hb, hml, hown, hts⟩ (m_X6_puts l E ρ th rc tl pa kd nm (up (up st (36 + 6 * r + 3) 0) (36 + 6 * r + 4) 0) hi ke tx wy hρ r 5 _ hr (by decide)) (cwV 3 hts (gi_V ml_X6_29 im_X6_puts sl_X6_puts it_X6 cd_X6_puts) rfl rfl rfl (by decide +kernel) ⟨Nat.le_of_ble_eq_true rfl, Nat.le_of_ble_eq_true rfl⟩) (pR_V (q0 := 0) (ci := 6) hP hK rfl rfl) rfl rfl hl.1 rfl (lv_room (Nat.le_of_ble_eq_true rfl)) dX6_forgets_18 ⟨Nat.le_of_ble_eq_true rfl, Nat.le_of_ble_eq_true rfl⟩) (dm hD rfl) hS rfl (fun H locs hP hS => ?_)
  have hP : va_P E.1 vwCl (refW E ρ th rc tl pa kd nm (forg3 st r) hi ke tx wy) H := hP
  refine lv_aload_n hx hb dX6_forgets_21 rfl (lv_lk hl rfl) ?_
  refine va_get (D := E.1) (ci := 6) hx hb hts inX6 hown hK.1 hP 0 rfl rfl 1 (by decide) (hts _ fl_X6_7) (fun _ h9 => h9) rfl dX6_forgets_22 ?_
  refine iv_iconst hx hb dX6_forgets_25 ?_
  refine lv_dup2_11 hx hb dX6_forgets_26 rfl rfl ?_
  refine iv_iald hx hb hK hP 1 rfl (5) (by omega) (by omega) dX6_forgets_27 ?_
  refine iv_iconst hx hb dX6_forgets_28 ?_
  refine iv_iadd hx hb dX6_forgets_29 ?_
  refine iv_iast hx hb hK hP (dm hD rfl) hS 1 rfl (5) (by omega) (by omega) dX6_forgets_30 (refW E ρ th rc tl pa kd nm (forg st r) hi ke tx wy) (rfl) (fun H locs hP hS => ?_)
  exact W.vret hx hb hrt (fun t ht hW => ⟨rfl, by rw [ht]; exact hP, hS.F ht⟩) hS.2.2 dX6_forgets_31 hlocks
set_option maxHeartbeats 4000000 in
set_option maxRecDepth 100000 in
theorem m_X6_truth (l : Launch) (E : Env3) (ρ : Nat → Nat) (th rc tl pa kd nm : Int) (st hi ke tx wy : S) (T : Int) (hI : IB T st) (r : Nat) (hr : r < 36) : Met l yX6_truth (Cond.code yX6_truth cX6_truth 4 (some .int) :: ALL) ({ frames := 1, cells := 0, slots := 0, locals := 22 }) (pR [.ref (ρ 0), .int (I (r : Int))] E (refW E ρ th rc tl pa kd nm st hi ke tx wy)) (qS (some (.int (I (truthF 7 st r))))) 0 0 (fun _ => False) := by
  refine mk_met (by decide) rfl (Nat.le_of_ble_eq_true rfl) ?_
  intro p e s m args below meth c hx hb hrt hml hts hown hlocks hnm hP hK ls hl
  have hown : s.vm.findClass RX6 = some m.cls := hown
  have hl : lv_has ls 4 [(0, .ref (ρ 0)), (1, .int (I (r : Int)))] := hl
  have hS : va_S (fun _ => False) s.heap s.heap [] := va_S.rf
  refine lv_iload_n hx hb dX6_truth_0 rfl (lv_lk hl rfl) ?_
  refine lv_istore_n (lv' := [(2, .int (I _)), (0, .ref _), (1, .int (I _))]) hx hb dX6_truth_1 rfl hl (by decide) rfl (fun ls hl => ?_)
  refine iv_iconst hx hb dX6_truth_2 ?_
  refine lv_istore_n (lv' := [(3, .int (I _)), (2, .int (I _)), (0, .ref _), (1, .int (I _))]) hx hb dX6_truth_3 rfl hl (by decide) rfl (fun ls hl => ?_)
  have LOOP4 : ∀ (n9 i : Nat) (q : Nat), (q < 36) → (i + n9 = 6) → (truthF (n9 + 1) st q = truthF 7 st r) → ∀ (locs : List Loc) (ls : Array Slot), va_S (fun _ => False) s.heap s.heap locs → lv_has ls 4 [(0, .ref (ρ 0)), (1, .int (I (r : Int))), (2, .int (I (q : Int))), (3, .int (I (i : Int)))] → W p l e ({ frames := 1, cells := 0, slots := 0, locals := 22 }) s m args below meth c s.heap locs 0 0 (MQ below (qS (some (.int (I (truthF 7 st r))))) args s 0 0 (fun _ => False)) (F0 m 4 ls []) := by
    intro n9
    induction n9 with
    | zero =>
      intro  i q hq hi9 he9 locs ls hS hl
      have t1 := (hI.2.2.2 q hq).1
      unfold triT at t1
      refine lv_aload_n hx hb dX6_truth_4 rfl (lv_lk hl rfl) ?_
      refine lv_iload_n hx hb dX6_truth_5 rfl (lv_lk hl rfl) ?_
      refine iv_iconst hx hb dX6_truth_6 ?_
      refine call_S (va_runV ⟨hx, hb, hml, hown, hts⟩ (m_X6_of l E ρ th rc tl pa kd nm st hi ke tx wy q 0 hq (by decide)) (cwV 2 hts (gi_V ml_X6_61 im_X6_of sl_X6_of it_X6 cd_X6_of) rfl rfl rfl (by decide +kernel) ⟨Nat.le_of_ble_eq_true rfl, Nat.le_of_ble_eq_true rfl⟩) (pR_V (q0 := 0) (ci := 6) hP hK rfl rfl) rfl rfl hl.1 rfl (lv_room (Nat.le_of_ble_eq_true rfl)) dX6_truth_7 ⟨Nat.le_of_ble_eq_true rfl, Nat.le_of_ble_eq_true rfl⟩) (fun _ h => h) hS rfl (fun locs hS => ?_)
      refine iv_eq (st (36 + 6 * q)) (rfl) ?_
      refine iv_iconst hx hb dX6_truth_10 ?_
      refine iv_icmp_ne (tgt := 36) hx hb dX6_truth_11 (by decide) (by omega) (by omega) (fun c_11 => ?_) (fun c_11 => ?_)
      · refine lv_aload_n hx hb dX6_truth_36 rfl (lv_lk hl rfl) ?_
        refine lv_iload_n hx hb dX6_truth_37 rfl (lv_lk hl rfl) ?_
        refine iv_iconst hx hb dX6_truth_38 ?_
        refine call_S (va_runV ⟨hx, hb, hml, hown, hts⟩ (m_X6_of l E ρ th rc tl pa kd nm st hi ke tx wy q 1 hq (by decide)) (cwV 2 hts (gi_V ml_X6_61 im_X6_of sl_X6_of it_X6 cd_X6_of) rfl rfl rfl (by decide +kernel) ⟨Nat.le_of_ble_eq_true rfl, Nat.le_of_ble_eq_true rfl⟩) (pR_V (q0 := 0) (ci := 6) hP hK rfl rfl) rfl rfl hl.1 rfl (lv_room (Nat.le_of_ble_eq_true rfl)) dX6_truth_39 ⟨Nat.le_of_ble_eq_true rfl, Nat.le_of_ble_eq_true rfl⟩) (fun _ h => h) hS rfl (fun locs hS => ?_)
        refine iv_eq (truthF 7 st r) (by rw [← he9, truthF, if_neg c_11]) ?_
        exact W.iret hx hb hrt (fun t ht hW => ⟨rfl, ht⟩) hS.2.2 dX6_truth_42 hlocks
      · refine lv_iload_n hx hb dX6_truth_14 rfl (lv_lk hl rfl) ?_
        refine iv_bipush hx hb dX6_truth_15 (by decide +kernel) ?_
        refine iv_icmp_ne (tgt := 23) hx hb dX6_truth_17 (by decide) (by omega) (by omega) (fun c_17 => by exfalso; omega) (fun c_17 => ?_)
        refine iv_bipush hx hb dX6_truth_20 (by decide +kernel) ?_
        refine iv_eq (truthF 7 st r) (by rw [← he9, truthF, if_pos c_11]; rfl) ?_
        exact W.iret hx hb hrt (fun t ht hW => ⟨rfl, ht⟩) hS.2.2 dX6_truth_22 hlocks
    | succ n9 ih =>
      intro  i q hq hi9 he9 locs ls hS hl
      have t1 := (hI.2.2.2 q hq).1
      unfold triT at t1
      refine lv_aload_n hx hb dX6_truth_4 rfl (lv_lk hl rfl) ?_
      refine lv_iload_n hx hb dX6_truth_5 rfl (lv_lk hl rfl) ?_
      refine iv_iconst hx hb dX6_truth_6 ?_
      refine call_S (va_runV ⟨hx, hb, hml, hown, hts⟩ (m_X6_of l E ρ th rc tl pa kd nm st hi ke tx wy q 0 hq (by decide)) (cwV 2 hts (gi_V ml_X6_61 im_X6_of sl_X6_of it_X6 cd_X6_of) rfl rfl rfl (by decide +kernel) ⟨Nat.le_of_ble_eq_true rfl, Nat.le_of_ble_eq_true rfl⟩) (pR_V (q0 := 0) (ci := 6) hP hK rfl rfl) rfl rfl hl.1 rfl (lv_room (Nat.le_of_ble_eq_true rfl)) dX6_truth_7 ⟨Nat.le_of_ble_eq_true rfl, Nat.le_of_ble_eq_true rfl⟩) (fun _ h => h) hS rfl (fun locs hS => ?_)
      refine iv_eq (st (36 + 6 * q)) (rfl) ?_
      refine iv_iconst hx hb dX6_truth_10 ?_
      refine iv_icmp_ne (tgt := 36) hx hb dX6_truth_11 (by decide) (by omega) (by omega) (fun c_11 => ?_) (fun c_11 => ?_)
      · refine lv_aload_n hx hb dX6_truth_36 rfl (lv_lk hl rfl) ?_
        refine lv_iload_n hx hb dX6_truth_37 rfl (lv_lk hl rfl) ?_
        refine iv_iconst hx hb dX6_truth_38 ?_
        refine call_S (va_runV ⟨hx, hb, hml, hown, hts⟩ (m_X6_of l E ρ th rc tl pa kd nm st hi ke tx wy q 1 hq (by decide)) (cwV 2 hts (gi_V ml_X6_61 im_X6_of sl_X6_of it_X6 cd_X6_of) rfl rfl rfl (by decide +kernel) ⟨Nat.le_of_ble_eq_true rfl, Nat.le_of_ble_eq_true rfl⟩) (pR_V (q0 := 0) (ci := 6) hP hK rfl rfl) rfl rfl hl.1 rfl (lv_room (Nat.le_of_ble_eq_true rfl)) dX6_truth_39 ⟨Nat.le_of_ble_eq_true rfl, Nat.le_of_ble_eq_true rfl⟩) (fun _ h => h) hS rfl (fun locs hS => ?_)
        refine iv_eq (truthF 7 st r) (by rw [← he9, truthF, if_neg c_11]) ?_
        exact W.iret hx hb hrt (fun t ht hW => ⟨rfl, ht⟩) hS.2.2 dX6_truth_42 hlocks
      · refine lv_iload_n hx hb dX6_truth_14 rfl (lv_lk hl rfl) ?_
        refine iv_bipush hx hb dX6_truth_15 (by decide +kernel) ?_
        refine iv_icmp_ne (tgt := 23) hx hb dX6_truth_17 (by decide) (by omega) (by omega) (fun c_17 => ?_) (fun c_17 => by exfalso; omega)
        refine lv_aload_n hx hb dX6_truth_23 rfl (lv_lk hl rfl) ?_
        refine lv_iload_n hx hb dX6_truth_24 rfl (lv_lk hl rfl) ?_
        refine iv_iconst hx hb dX6_truth_25 ?_
        refine call_S (va_runV ⟨hx, hb, hml, hown, hts⟩ (m_X6_of l E ρ th rc tl pa kd nm st hi ke tx wy q 1 hq (by decide)) (cwV 2 hts (gi_V ml_X6_61 im_X6_of sl_X6_of it_X6 cd_X6_of) rfl rfl rfl (by decide +kernel) ⟨Nat.le_of_ble_eq_true rfl, Nat.le_of_ble_eq_true rfl⟩) (pR_V (q0 := 0) (ci := 6) hP hK rfl rfl) rfl rfl hl.1 rfl (lv_room (Nat.le_of_ble_eq_true rfl)) dX6_truth_26 ⟨Nat.le_of_ble_eq_true rfl, Nat.le_of_ble_eq_true rfl⟩) (fun _ h => h) hS rfl (fun locs hS => ?_)
        refine iv_eq ((((st (36 + 6 * q + 1)).toNat : Nat) : Int)) ((IB_nextT hI hq c_11).1) ?_
        refine lv_istore_n (lv' := [(2, .int (I _)), (0, .ref _), (1, .int (I _)), (3, .int (I _))]) hx hb dX6_truth_29 rfl hl (by decide) rfl (fun ls hl => ?_)
        refine iv_iinc (k := 3) hx hb dX6_truth_30 hl rfl (((i + 1 : Nat) : Int)) (by omega) (by decide) [(3, .int (I _)), (2, .int (I _)), (0, .ref _), (1, .int (I _))] rfl (fun ls hl => ?_)
        refine lv_goto (tgt := 4) hx hb dX6_truth_33 (by decide) ?_
        exact ih (i + 1) (st (36 + 6 * q + 1)).toNat (IB_nextT hI hq c_11).2 (by omega) (by rw [← he9]; exact (truth_s c_11).symm) locs ls hS (lv_sub hl [2, 3, 1, 0] rfl)
  exact LOOP4 6 0 r hr (by omega) rfl _ _ hS (lv_sub hl [2, 3, 1, 0] rfl)
set_option maxHeartbeats 4000000 in
set_option maxRecDepth 100000 in
theorem m_X6_depth (l : Launch) (E : Env3) (ρ : Nat → Nat) (th rc tl pa kd nm : Int) (st hi ke tx wy : S) (T : Int) (hI : IB T st) (z : Nat) (hz : z < 6) : Met l yX6_depth (Cond.code yX6_depth cX6_depth 4 (some .int) :: ALL) ({ frames := 1, cells := 0, slots := 0, locals := 22 }) (pR [.ref (ρ 0), .int (I (z : Int))] E (refW E ρ th rc tl pa kd nm st hi ke tx wy)) (qS (some (.int (I (depthF 6 st z))))) 0 0 (fun _ => False) := by
  refine mk_met (by decide) rfl (Nat.le_of_ble_eq_true rfl) ?_
  intro p e s m args below meth c hx hb hrt hml hts hown hlocks hnm hP hK ls hl
  have hown : s.vm.findClass RX6 = some m.cls := hown
  have hl : lv_has ls 4 [(0, .ref (ρ 0)), (1, .int (I (z : Int)))] := hl
  have hS : va_S (fun _ => False) s.heap s.heap [] := va_S.rf
  refine iv_iconst hx hb dX6_depth_0 ?_
  refine lv_istore_n (lv' := [(2, .int (I _)), (0, .ref _), (1, .int (I _))]) hx hb dX6_depth_1 rfl hl (by decide) rfl (fun ls hl => ?_)
  refine lv_iload_n hx hb dX6_depth_2 rfl (lv_lk hl rfl) ?_
  refine lv_istore_n (lv' := [(3, .int (I _)), (2, .int (I _)), (0, .ref _), (1, .int (I _))]) hx hb dX6_depth_3 rfl hl (by decide) rfl (fun ls hl => ?_)
  have LOOP4 : ∀ (n9 i : Nat) (y : Nat), (y ≤ n9 ∧ y < 6) → (i + y ≤ 5) → ((i : Int) + depthF 6 st y = depthF 6 st z) → ∀ (locs : List Loc) (ls : Array Slot), va_S (fun _ => False) s.heap s.heap locs → lv_has ls 4 [(0, .ref (ρ 0)), (1, .int (I (z : Int))), (2, .int (I (i : Int))), (3, .int (I (y : Int)))] → W p l e ({ frames := 1, cells := 0, slots := 0, locals := 22 }) s m args below meth c s.heap locs 0 0 (MQ below (qS (some (.int (I (depthF 6 st z))))) args s 0 0 (fun _ => False)) (F0 m 4 ls []) := by
    intro n9
    induction n9 with
    | zero =>
      intro  i y hy hi9 he9 locs ls hS hl
      refine lv_iload_n hx hb dX6_depth_4 rfl (lv_lk hl rfl) ?_
      refine iv_if_eq (tgt := 21) hx hb dX6_depth_5 (by decide) (by omega) (fun c_5 => ?_) (fun c_5 => by exfalso; omega)
      refine lv_iload_n hx hb dX6_depth_21 rfl (lv_lk hl rfl) ?_
      refine iv_eq (depthF 6 st z) (by rw [← he9, show y = 0 by omega, depth_0]; omega) ?_
      exact W.iret hx hb hrt (fun t ht hW => ⟨rfl, ht⟩) hS.2.2 dX6_depth_22 hlocks
    | succ n9 ih =>
      intro  i y hy hi9 he9 locs ls hS hl
      refine lv_iload_n hx hb dX6_depth_4 rfl (lv_lk hl rfl) ?_
      refine iv_if_eq (tgt := 21) hx hb dX6_depth_5 (by decide) (by omega) (fun c_5 => ?_) (fun c_5 => ?_)
      · refine lv_iload_n hx hb dX6_depth_21 rfl (lv_lk hl rfl) ?_
        refine iv_eq (depthF 6 st z) (by rw [← he9, show y = 0 by omega, depth_0]; omega) ?_
        exact W.iret hx hb hrt (fun t ht hW => ⟨rfl, ht⟩) hS.2.2 dX6_depth_22 hlocks
      · refine iv_iinc (k := 2) hx hb dX6_depth_8 hl rfl (((i + 1 : Nat) : Int)) (by omega) (by decide) [(2, .int (I _)), (0, .ref _), (1, .int (I _)), (3, .int (I _))] rfl (fun ls hl => ?_)
        refine lv_aload_n hx hb dX6_depth_11 rfl (lv_lk hl rfl) ?_
        refine lv_iload_n hx hb dX6_depth_12 rfl (lv_lk hl rfl) ?_
        refine iv_iconst hx hb dX6_depth_13 ?_
        refine call_S (va_runV ⟨hx, hb, hml, hown, hts⟩ (m_X6_ofZone l E ρ th rc tl pa kd nm st hi ke tx wy y 0 hy.2 (by decide)) (cwV 2 hts (gi_V ml_X6_50 im_X6_ofZone sl_X6_ofZone it_X6 cd_X6_ofZone) rfl rfl rfl (by decide +kernel) ⟨Nat.le_of_ble_eq_true rfl, Nat.le_of_ble_eq_true rfl⟩) (pR_V (q0 := 0) (ci := 6) hP hK rfl rfl) rfl rfl hl.1 rfl (lv_room (Nat.le_of_ble_eq_true rfl)) dX6_depth_14 ⟨Nat.le_of_ble_eq_true rfl, Nat.le_of_ble_eq_true rfl⟩) (fun _ h => h) hS rfl (fun locs hS => ?_)
        refine iv_eq ((par st y : Int)) ((IB_par hI (z := y) (by omega) hy.2).1) ?_
        refine lv_istore_n (lv' := [(3, .int (I _)), (2, .int (I _)), (0, .ref _), (1, .int (I _))]) hx hb dX6_depth_17 rfl hl (by decide) rfl (fun ls hl => ?_)
        refine lv_goto (tgt := 4) hx hb dX6_depth_18 (by decide) ?_
        exact ih (i + 1) (par st y) (by have := (IB_par hI (z := y) (by omega) hy.2).2; omega) (by have := (IB_par hI (z := y) (by omega) hy.2).2; omega) (by rw [← he9, depth_s hI hy.2 (by omega)]; omega) locs ls hS (lv_sub hl [2, 3, 1, 0] rfl)
  exact LOOP4 z 0 z ⟨Nat.le_refl _, hz⟩ (by omega) (by omega) _ _ hS (lv_sub hl [2, 3, 1, 0] rfl)
