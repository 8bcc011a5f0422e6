/-! the reference, fifth part; written by ref.py -/
set_option maxHeartbeats 4000000 in
set_option maxRecDepth 100000 in
theorem m_X6_passes (l : Launch) (E : Env3) (ρ : Nat → Nat) (th rc tl pa kd nm : Int) (st hi ke tx wy : S) (hρ : dR ρ 6) (T : Int) (hI : IB T st) (t : Int) (ht : 0 ≤ t ∧ t ≤ 100 ∧ T ≤ 99900) : Met l yX6_passes (Cond.code yX6_passes cX6_passes 4 (some .int) :: ALL) ({ frames := 2, cells := 0, slots := 0, locals := 44 }) (pR [.ref (ρ 0), .int (I t)] E (refW E ρ th rc tl pa kd nm st hi ke tx wy)) (qW (some (.int (I (passes st t 5 - st 5)))) E (refW E ρ th rc tl pa kd nm st hi ke tx wy) (refW E ρ th rc tl pa kd nm (passes st t) hi ke tx wy)) 0 0 (adIn (refW E ρ th rc tl pa kd nm st hi ke tx wy)) := by
  refine mk_met (by decide) rfl (Nat.le_of_ble_eq_true rfl) ?_
  intro p e s m args below meth c hx hb hrt hml hts hown hlocks hnm hP hK ls hl
  have hown : s.vm.findClass RX6 = some m.cls := hown
  have hl : lv_has ls 4 [(0, .ref (ρ 0)), (1, .int (I t))] := hl
  have hD : va_D (adIn (refW E ρ th rc tl pa kd nm st hi ke tx wy)) (refW E ρ th rc tl pa kd nm st hi ke tx wy) := D_of_dR hρ rfl
  have hS : va_S (adIn (refW E ρ th rc tl pa kd nm st hi ke tx wy)) s.heap s.heap [] := va_S.rf
  refine lv_aload_n hx hb dX6_passes_0 rfl (lv_lk hl rfl) ?_
  refine va_get (D := E.1) (ci := 6) hx hb hts inX6 hown hK.1 hP 0 rfl rfl 1 (by decide) (hts _ fl_X6_7) (fun _ h9 => h9) rfl dX6_passes_1 ?_
  refine iv_iconst hx hb dX6_passes_4 ?_
  refine iv_iald hx hb hK hP 1 rfl (5) (by omega) (by omega) dX6_passes_5 ?_
  refine lv_istore_n (lv' := [(2, .int (I _)), (0, .ref _), (1, .int (I _))]) hx hb dX6_passes_6 rfl hl (by decide) rfl (fun ls hl => ?_)
  refine lv_aload_n hx hb dX6_passes_7 rfl (lv_lk hl rfl) ?_
  refine va_get (D := E.1) (ci := 6) hx hb hts inX6 hown hK.1 hP 0 rfl rfl 1 (by decide) (hts _ fl_X6_7) (fun _ h9 => h9) rfl dX6_passes_8 ?_
  refine iv_iconst hx hb dX6_passes_11 ?_
  refine lv_dup2_11 hx hb dX6_passes_12 rfl rfl ?_
  refine iv_iald hx hb hK hP 1 rfl (0) (by omega) (by omega) dX6_passes_13 ?_
  refine lv_iload_n hx hb dX6_passes_14 rfl (lv_lk hl rfl) ?_
  refine iv_iadd hx hb dX6_passes_15 ?_
  refine iv_iast hx hb hK hP (dm hD rfl) hS 1 rfl (0) (by omega) (by omega) dX6_passes_16 (refW E ρ th rc tl pa kd nm (up st 0 (st 0 + t)) hi ke tx wy) (rfl) (fun H locs hP hS => ?_)
  obtain ⟨s0, hs0⟩ : ∃ x, x = up st 0 (st 0 + t) := ⟨_, rfl⟩
  rw [← hs0] at hP
  have hI0 : IB (T + 100) s0 := by rw [hs0]; exact IB_time hI _ (by have := hI.1; omega) _ (by have := hI.1; omega)
  refine iv_iconst hx hb dX6_passes_17 ?_
  refine lv_istore_n (lv' := [(3, .int (I _)), (2, .int (I _)), (0, .ref _), (1, .int (I _))]) hx hb dX6_passes_18 rfl hl (by decide) rfl (fun ls hl => ?_)
  have LOOP19 : ∀ (n9 i : Nat), (i + n9 = 6) → (1 ≤ i) → ∀ (H : Heap) (locs : List Loc) (ls : Array Slot), va_P E.1 vwCl (refW E ρ th rc tl pa kd nm (iter passZ i s0) hi ke tx wy) H → va_S (adIn (refW E ρ th rc tl pa kd nm st hi ke tx wy)) s.heap H locs → lv_has ls 4 [(0, .ref (ρ 0)), (1, .int (I t)), (2, .int (I (st 5))), (3, .int (I (i : Int)))] → W p l e ({ frames := 2, cells := 0, slots := 0, locals := 44 }) s m args below meth c H locs 0 0 (MQ below (qW (some (.int (I (passes st t 5 - st 5)))) E (refW E ρ th rc tl pa kd nm st hi ke tx wy) (refW E ρ th rc tl pa kd nm (passes st t) hi ke tx wy)) args s 0 0 (adIn (refW E ρ th rc tl pa kd nm st hi ke tx wy))) (F0 m 19 ls []) := by
    intro n9
    induction n9 with
    | zero =>
      intro  i hi9 hi8 H locs ls hP hS hl
      obtain rfl : i = 6 := by omega
      refine lv_iload_n hx hb dX6_passes_19 rfl (lv_lk hl rfl) ?_
      refine iv_bipush hx hb dX6_passes_20 (by decide +kernel) ?_
      refine iv_icmp_ge (tgt := 72) hx hb dX6_passes_22 (by decide) (by omega) (by omega) (fun c_22 => ?_) (fun c_22 => by exfalso; omega)
      obtain ⟨s1, hs1⟩ : ∃ x, x = iter passZ 6 s0 := ⟨_, rfl⟩
      rw [← hs1] at hP
      have hI1 : IB (T + 100) s1 := by rw [hs1]; exact iter_IB (N := 6) (fun st n hn h => IB_passZ h hn) 6 (Nat.le_refl _) _ hI0
      refine iv_iconst hx hb dX6_passes_72 ?_
      refine lv_istore_n (lv' := [(3, .int (I _)), (0, .ref _), (1, .int (I _)), (2, .int (I _))]) hx hb dX6_passes_73 rfl hl (by decide) rfl (fun ls hl => ?_)
      have LOOP74 : ∀ (n9 i : Nat), (i + n9 = 36) → ∀ (H : Heap) (locs : List Loc) (ls : Array Slot), va_P E.1 vwCl (refW E ρ th rc tl pa kd nm (iter passR i s1) hi ke tx wy) H → va_S (adIn (refW E ρ th rc tl pa kd nm st hi ke tx wy)) s.heap H locs → lv_has ls 4 [(0, .ref (ρ 0)), (1, .int (I t)), (2, .int (I (st 5))), (3, .int (I (i : Int)))] → W p l e ({ frames := 2, cells := 0, slots := 0, locals := 44 }) s m args below meth c H locs 0 0 (MQ below (qW (some (.int (I (passes st t 5 - st 5)))) E (refW E ρ th rc tl pa kd nm st hi ke tx wy) (refW E ρ th rc tl pa kd nm (passes st t) hi ke tx wy)) args s 0 0 (adIn (refW E ρ th rc tl pa kd nm st hi ke tx wy))) (F0 m 74 ls []) := by
        intro n9
        induction n9 with
        | zero =>
          intro  i hi9 H locs ls hP hS hl
          obtain rfl : i = 36 := by omega
          refine lv_iload_n hx hb dX6_passes_74 rfl (lv_lk hl rfl) ?_
          refine iv_bipush hx hb dX6_passes_75 (by decide +kernel) ?_
          refine iv_icmp_ge (tgt := 115) hx hb dX6_passes_77 (by decide) (by omega) (by omega) (fun c_77 => ?_) (fun c_77 => by exfalso; omega)
          refine lv_aload_n hx hb dX6_passes_115 rfl (lv_lk hl rfl) ?_
          refine va_get (D := E.1) (ci := 6) hx hb hts inX6 hown hK.1 hP 0 rfl rfl 1 (by decide) (hts _ fl_X6_7) (fun _ h9 => h9) rfl dX6_passes_116 ?_
          refine iv_iconst hx hb dX6_passes_119 ?_
          refine iv_iald hx hb hK hP 1 rfl (5) (by omega) (by omega) dX6_passes_120 ?_
          refine lv_iload_n hx hb dX6_passes_121 rfl (lv_lk hl rfl) ?_
          refine iv_isub hx hb dX6_passes_122 ?_
          refine iv_eq (passes st t 5 - st 5) (by rw [hs1, hs0]; rfl) ?_
          exact W.iret hx hb hrt (fun t ht hW => ⟨rfl, by rw [ht]; exact (by rw [hs1, hs0] at hP; exact hP), hS.F ht⟩) hS.2.2 dX6_passes_123 hlocks
        | succ n9 ih =>
          intro  i hi9 H locs ls hP hS hl
          have hI9 : IB (T + 100) (iter passR i s1) := iter_IB (N := 36) (fun st n hn h => IB_passR h hn) i (by omega) _ hI1
          have z9 := (hI9.2.2.2 i (by omega)).2
          unfold triM at z9
          have z8 := hI9.1
          refine lv_iload_n hx hb dX6_passes_74 rfl (lv_lk hl rfl) ?_
          refine iv_bipush hx hb dX6_passes_75 (by decide +kernel) ?_
          refine iv_icmp_ge (tgt := 115) hx hb dX6_passes_77 (by decide) (by omega) (by omega) (fun c_77 => by exfalso; omega) (fun c_77 => ?_)
          refine lv_aload_n hx hb dX6_passes_80 rfl (lv_lk hl rfl) ?_
          refine lv_iload_n hx hb dX6_passes_81 rfl (lv_lk hl rfl) ?_
          refine iv_iconst hx hb dX6_passes_82 ?_
          refine call_S (va_runV ⟨hx, hb, hml, hown, hts⟩ (m_X6_of l E ρ th rc tl pa kd nm (iter passR i s1) hi ke tx wy i 3 (by omega) (by decide)) (cwV 2 hts (gi_V ml_X6_61 im_X6_of sl_X6_of it_X6 cd_X6_of) rfl rfl rfl (by decide +kernel) ⟨Nat.le_of_ble_eq_true rfl, Nat.le_of_ble_eq_true rfl⟩) (pR_V (q0 := 0) (ci := 6) hP hK rfl rfl) rfl rfl hl.1 rfl (lv_room (Nat.le_of_ble_eq_true rfl)) dX6_passes_83 ⟨Nat.le_of_ble_eq_true rfl, Nat.le_of_ble_eq_true rfl⟩) (fun _ h => h) hS rfl (fun locs hS => ?_)
          refine iv_if_eq (tgt := 109) hx hb dX6_passes_86 (by decide) (by omega) (fun c_86 => ?_) (fun c_86 => ?_)
          · have hP : va_P E.1 vwCl (refW E ρ th rc tl pa kd nm (passR (iter passR i s1) i) hi ke tx wy) H := (by rw [passR, if_neg (by omega)]; exact hP)
            refine iv_iinc (k := 3) hx hb dX6_passes_109 hl rfl (((i + 1 : Nat) : Int)) (by omega) (by decide) [(3, .int (I _)), (0, .ref _), (1, .int (I _)), (2, .int (I _))] rfl (fun ls hl => ?_)
            refine lv_goto (tgt := 74) hx hb dX6_passes_112 (by decide) ?_
            exact ih (i + 1) (by omega) H locs ls hP hS (lv_sub hl [1, 2, 3, 0] rfl)
          · refine lv_aload_n hx hb dX6_passes_89 rfl (lv_lk hl rfl) ?_
            refine lv_iload_n hx hb dX6_passes_90 rfl (lv_lk hl rfl) ?_
            refine iv_iconst hx hb dX6_passes_91 ?_
            refine call_S (va_runV ⟨hx, hb, hml, hown, hts⟩ (m_X6_of l E ρ th rc tl pa kd nm (iter passR i s1) hi ke tx wy i 5 (by omega) (by decide)) (cwV 2 hts (gi_V ml_X6_61 im_X6_of sl_X6_of it_X6 cd_X6_of) rfl rfl rfl (by decide +kernel) ⟨Nat.le_of_ble_eq_true rfl, Nat.le_of_ble_eq_true rfl⟩) (pR_V (q0 := 0) (ci := 6) hP hK rfl rfl) rfl rfl hl.1 rfl (lv_room (Nat.le_of_ble_eq_true rfl)) dX6_passes_92 ⟨Nat.le_of_ble_eq_true rfl, Nat.le_of_ble_eq_true rfl⟩) (fun _ h => h) hS rfl (fun locs hS => ?_)
            refine lv_aload_n hx hb dX6_passes_95 rfl (lv_lk hl rfl) ?_
            refine va_get (D := E.1) (ci := 6) hx hb hts inX6 hown hK.1 hP 0 rfl rfl 1 (by decide) (hts _ fl_X6_7) (fun _ h9 => h9) rfl dX6_passes_96 ?_
            refine iv_iconst hx hb dX6_passes_99 ?_
            refine iv_iald hx hb hK hP 1 rfl (0) (by omega) (by omega) dX6_passes_100 ?_
            refine iv_icmp_gt (tgt := 109) hx hb dX6_passes_101 (by decide) (by omega) (by omega) (fun c_101 => ?_) (fun c_101 => ?_)
            · have hP : va_P E.1 vwCl (refW E ρ th rc tl pa kd nm (passR (iter passR i s1) i) hi ke tx wy) H := (by rw [passR, if_neg (by omega)]; exact hP)
              refine iv_iinc (k := 3) hx hb dX6_passes_109 hl rfl (((i + 1 : Nat) : Int)) (by omega) (by decide) [(3, .int (I _)), (0, .ref _), (1, .int (I _)), (2, .int (I _))] rfl (fun ls hl => ?_)
              refine lv_goto (tgt := 74) hx hb dX6_passes_112 (by decide) ?_
              exact ih (i + 1) (by omega) H locs ls hP hS (lv_sub hl [1, 2, 3, 0] rfl)
            · refine lv_aload_n hx hb dX6_passes_104 rfl (lv_lk hl rfl) ?_
              refine lv_iload_n hx hb dX6_passes_105 rfl (lv_lk hl rfl) ?_
              refine call_F (va_runV ⟨hx, hb, hml, hown, hts⟩ (m_X6_forgets l E ρ th rc tl pa kd nm (iter passR i s1) hi ke tx wy hρ i (by omega)) (cwV 1 hts (gi_V ml_X6_88 im_X6_forgets sl_X6_forgets it_X6 cd_X6_forgets) rfl rfl rfl (by decide +kernel) ⟨Nat.le_of_ble_eq_true rfl, Nat.le_of_ble_eq_true rfl⟩) (pR_V (q0 := 0) (ci := 6) hP hK rfl rfl) rfl rfl hl.1 rfl (lv_room (Nat.le_of_ble_eq_true rfl)) dX6_passes_106 ⟨Nat.le_of_ble_eq_true rfl, Nat.le_of_ble_eq_true rfl⟩) (dm hD rfl) hS rfl (fun H locs hP hS => ?_)
              have hP : va_P E.1 vwCl (refW E ρ th rc tl pa kd nm (forg (iter passR i s1) i) hi ke tx wy) H := hP
              have hP : va_P E.1 vwCl (refW E ρ th rc tl pa kd nm (passR (iter passR i s1) i) hi ke tx wy) H := (by rw [passR, if_pos (by omega)]; exact hP)
              refine iv_iinc (k := 3) hx hb dX6_passes_109 hl rfl (((i + 1 : Nat) : Int)) (by omega) (by decide) [(3, .int (I _)), (0, .ref _), (1, .int (I _)), (2, .int (I _))] rfl (fun ls hl => ?_)
              refine lv_goto (tgt := 74) hx hb dX6_passes_112 (by decide) ?_
              exact ih (i + 1) (by omega) H locs ls hP hS (lv_sub hl [1, 2, 3, 0] rfl)
      exact LOOP74 36 0 (by omega) _ _ _ hP hS (lv_sub hl [1, 2, 3, 0] rfl)
    | succ n9 ih =>
      intro  i hi9 hi8 H locs ls hP hS hl
      have hI9 : IB (T + 100) (iter passZ i s0) := iter_IB (N := 6) (fun st n hn h => IB_passZ h hn) i (by omega) _ hI0
      have z9 := (hI9.2.2.1 i (by omega)).2.2.2.2.2
      have z8 := hI9.1
      refine lv_iload_n hx hb dX6_passes_19 rfl (lv_lk hl rfl) ?_
      refine iv_bipush hx hb dX6_passes_20 (by decide +kernel) ?_
      refine iv_icmp_ge (tgt := 72) hx hb dX6_passes_22 (by decide) (by omega) (by omega) (fun c_22 => by exfalso; omega) (fun c_22 => ?_)
      refine lv_aload_n hx hb dX6_passes_25 rfl (lv_lk hl rfl) ?_
      refine lv_iload_n hx hb dX6_passes_26 rfl (lv_lk hl rfl) ?_
      refine iv_iconst hx hb dX6_passes_27 ?_
      refine call_S (va_runV ⟨hx, hb, hml, hown, hts⟩ (m_X6_ofZone l E ρ th rc tl pa kd nm (iter passZ i s0) hi ke tx wy i 3 (by omega) (by decide)) (cwV 2 hts (gi_V ml_X6_50 im_X6_ofZone sl_X6_ofZone it_X6 cd_X6_ofZone) rfl rfl rfl (by decide +kernel) ⟨Nat.le_of_ble_eq_true rfl, Nat.le_of_ble_eq_true rfl⟩) (pR_V (q0 := 0) (ci := 6) hP hK rfl rfl) rfl rfl hl.1 rfl (lv_room (Nat.le_of_ble_eq_true rfl)) dX6_passes_28 ⟨Nat.le_of_ble_eq_true rfl, Nat.le_of_ble_eq_true rfl⟩) (fun _ h => h) hS rfl (fun locs hS => ?_)
      refine iv_if_le (tgt := 66) hx hb dX6_passes_31 (by decide) (by omega) (fun c_31 => ?_) (fun c_31 => ?_)
      · have hP : va_P E.1 vwCl (refW E ρ th rc tl pa kd nm (passZ (iter passZ i s0) i) hi ke tx wy) H := (by rw [passZ, if_neg (by omega)]; exact hP)
        refine iv_iinc (k := 3) hx hb dX6_passes_66 hl rfl (((i + 1 : Nat) : Int)) (by omega) (by decide) [(3, .int (I _)), (0, .ref _), (1, .int (I _)), (2, .int (I _))] rfl (fun ls hl => ?_)
        refine lv_goto (tgt := 19) hx hb dX6_passes_69 (by decide) ?_
        exact ih (i + 1) (by omega) (by omega) H locs ls hP hS (lv_sub hl [1, 2, 3, 0] rfl)
      · refine lv_aload_n hx hb dX6_passes_34 rfl (lv_lk hl rfl) ?_
        refine lv_iload_n hx hb dX6_passes_35 rfl (lv_lk hl rfl) ?_
        refine iv_iconst hx hb dX6_passes_36 ?_
        refine call_S (va_runV ⟨hx, hb, hml, hown, hts⟩ (m_X6_ofZone l E ρ th rc tl pa kd nm (iter passZ i s0) hi ke tx wy i 3 (by omega) (by decide)) (cwV 2 hts (gi_V ml_X6_50 im_X6_ofZone sl_X6_ofZone it_X6 cd_X6_ofZone) rfl rfl rfl (by decide +kernel) ⟨Nat.le_of_ble_eq_true rfl, Nat.le_of_ble_eq_true rfl⟩) (pR_V (q0 := 0) (ci := 6) hP hK rfl rfl) rfl rfl hl.1 rfl (lv_room (Nat.le_of_ble_eq_true rfl)) dX6_passes_37 ⟨Nat.le_of_ble_eq_true rfl, Nat.le_of_ble_eq_true rfl⟩) (fun _ h => h) hS rfl (fun locs hS => ?_)
        refine lv_aload_n hx hb dX6_passes_40 rfl (lv_lk hl rfl) ?_
        refine va_get (D := E.1) (ci := 6) hx hb hts inX6 hown hK.1 hP 0 rfl rfl 1 (by decide) (hts _ fl_X6_7) (fun _ h9 => h9) rfl dX6_passes_41 ?_
        refine iv_iconst hx hb dX6_passes_44 ?_
        refine iv_iald hx hb hK hP 1 rfl (0) (by omega) (by omega) dX6_passes_45 ?_
        refine iv_icmp_gt (tgt := 66) hx hb dX6_passes_46 (by decide) (by omega) (by omega) (fun c_46 => ?_) (fun c_46 => ?_)
        · have hP : va_P E.1 vwCl (refW E ρ th rc tl pa kd nm (passZ (iter passZ i s0) i) hi ke tx wy) H := (by rw [passZ, if_neg (by omega)]; exact hP)
          refine iv_iinc (k := 3) hx hb dX6_passes_66 hl rfl (((i + 1 : Nat) : Int)) (by omega) (by decide) [(3, .int (I _)), (0, .ref _), (1, .int (I _)), (2, .int (I _))] rfl (fun ls hl => ?_)
          refine lv_goto (tgt := 19) hx hb dX6_passes_69 (by decide) ?_
          exact ih (i + 1) (by omega) (by omega) H locs ls hP hS (lv_sub hl [1, 2, 3, 0] rfl)
        · refine lv_aload_n hx hb dX6_passes_49 rfl (lv_lk hl rfl) ?_
          refine lv_iload_n hx hb dX6_passes_50 rfl (lv_lk hl rfl) ?_
          refine iv_iconst hx hb dX6_passes_51 ?_
          refine iv_iconst hx hb dX6_passes_52 ?_
          refine call_F (va_runV ⟨hx, hb, hml, hown, hts⟩ (m_X6_putsZone l E ρ th rc tl pa kd nm (iter passZ i s0) hi ke tx wy hρ i 3 _ (by omega) (by decide)) (cwV 3 hts (gi_V ml_X6_25 im_X6_putsZone sl_X6_putsZone it_X6 cd_X6_putsZone) rfl rfl rfl (by decide +kernel) ⟨Nat.le_of_ble_eq_true rfl, Nat.le_of_ble_eq_true rfl⟩) (pR_V (q0 := 0) (ci := 6) hP hK rfl rfl) rfl rfl hl.1 rfl (lv_room (Nat.le_of_ble_eq_true rfl)) dX6_passes_53 ⟨Nat.le_of_ble_eq_true rfl, Nat.le_of_ble_eq_true rfl⟩) (dm hD rfl) hS rfl (fun H locs hP hS => ?_)
          have hP : va_P E.1 vwCl (refW E ρ th rc tl pa kd nm (up (iter passZ i s0) (6 + 5 * i + 3) 0) hi ke tx wy) H := hP
          refine lv_aload_n hx hb dX6_passes_56 rfl (lv_lk hl rfl) ?_
          refine va_get (D := E.1) (ci := 6) hx hb hts inX6 hown hK.1 hP 0 rfl rfl 1 (by decide) (hts _ fl_X6_7) (fun _ h9 => h9) rfl dX6_passes_57 ?_
          refine iv_iconst hx hb dX6_passes_60 ?_
          refine lv_dup2_11 hx hb dX6_passes_61 rfl rfl ?_
          refine iv_iald hx hb hK hP 1 rfl (5) (by omega) (by omega) dX6_passes_62 ?_
          refine iv_iconst hx hb dX6_passes_63 ?_
          refine iv_iadd hx hb dX6_passes_64 ?_
          refine iv_iast hx hb hK hP (dm hD rfl) hS 1 rfl (5) (by omega) (by omega) dX6_passes_65 (refW E ρ th rc tl pa kd nm (up (up (iter passZ i s0) (6 + 5 * i + 3) 0) 5 (up (iter passZ i s0) (6 + 5 * i + 3) 0 5 + 1)) hi ke tx wy) (rfl) (fun H locs hP hS => ?_)
          have hP : va_P E.1 vwCl (refW E ρ th rc tl pa kd nm (passZ (iter passZ i s0) i) hi ke tx wy) H := (by rw [passZ, if_pos (by omega)]; exact hP)
          refine iv_iinc (k := 3) hx hb dX6_passes_66 hl rfl (((i + 1 : Nat) : Int)) (by omega) (by decide) [(3, .int (I _)), (0, .ref _), (1, .int (I _)), (2, .int (I _))] rfl (fun ls hl => ?_)
          refine lv_goto (tgt := 19) hx hb dX6_passes_69 (by decide) ?_
          exact ih (i + 1) (by omega) (by omega) H locs ls hP hS (lv_sub hl [1, 2, 3, 0] rfl)
  exact LOOP19 5 1 (by omega) (by omega) _ _ _ (by rw [show iter passZ 1 s0 = passZ s0 0 from rfl, passZ_0 (by rw [hs0, up_ne _ _ (by decide)]; exact hI.2.1.2)]; exact hP) hS (lv_sub hl [2, 3, 1, 0] rfl)
set_option maxHeartbeats 4000000 in
set_option maxRecDepth 100000 in
theorem m_X6_leftUntil (l : Launch) (E : Env3) (ρ : Nat → Nat) (th rc tl pa kd nm : Int) (st hi ke tx wy : S) (e9 : Int) (he9 : 0 ≤ e9 ∧ e9 ≤ 1000000) : Met l yX6_leftUntil (Cond.code yX6_leftUntil cX6_leftUntil 2 (some .int) :: ALL) ({ frames := 0, cells := 0, slots := 0, locals := 0 }) (pR [.ref (ρ 0), .int (I e9)] E (refW E ρ th rc tl pa kd nm st hi ke tx wy)) (qS (some (.int (I (left st e9))))) 0 0 (fun _ => False) := by
  refine mk_met (by decide) rfl (Nat.le_of_ble_eq_true rfl) ?_
  intro p e s m args below meth c hx hb hrt hml hts hown hlocks hnm hP hK ls hl
  have hown : s.vm.findClass RX6 = some m.cls := hown
  have hl : lv_has ls 2 [(0, .ref (ρ 0)), (1, .int (I e9))] := hl
  have hS : va_S (fun _ => False) s.heap s.heap [] := va_S.rf
  refine lv_iload_n hx hb dX6_leftUntil_0 rfl (lv_lk hl rfl) ?_
  refine iv_if_ne (tgt := 8) hx hb dX6_leftUntil_1 (by decide) (by omega) (fun c_1 => ?_) (fun c_1 => ?_)
  · refine lv_iload_n hx hb dX6_leftUntil_8 rfl (lv_lk hl rfl) ?_
    refine lv_aload_n hx hb dX6_leftUntil_9 rfl (lv_lk hl rfl) ?_
    refine va_get (D := E.1) (ci := 6) hx hb hts inX6 hown hK.1 hP 0 rfl rfl 1 (by decide) (hts _ fl_X6_7) (fun _ h9 => h9) rfl dX6_leftUntil_10 ?_
    refine iv_iconst hx hb dX6_leftUntil_13 ?_
    refine iv_iald hx hb hK hP 1 rfl (0) (by omega) (by omega) dX6_leftUntil_14 ?_
    refine iv_isub hx hb dX6_leftUntil_15 ?_
    refine iv_eq (left st e9) (by rw [left, if_neg c_1]) ?_
    exact W.iret hx hb hrt (fun t ht hW => ⟨rfl, ht⟩) hS.2.2 dX6_leftUntil_16 hlocks
  · refine iv_iconst hx hb dX6_leftUntil_4 ?_
    refine lv_goto (tgt := 16) hx hb dX6_leftUntil_5 (by decide) ?_
    refine iv_eq (left st e9) (by rw [left, if_pos c_1]) ?_
    exact W.iret hx hb hrt (fun t ht hW => ⟨rfl, ht⟩) hS.2.2 dX6_leftUntil_16 hlocks
set_option maxHeartbeats 4000000 in
set_option maxRecDepth 100000 in
theorem m_X6_sooner (l : Launch) (E : Env3) (a b : Int) (ha : -2147483648 ≤ a ∧ a ≤ 2147483647) (hb : -2147483648 ≤ b ∧ b ≤ 2147483647) : Met l yX6_sooner (Cond.code yX6_sooner cX6_sooner 2 (some .int) :: ALL) ({ frames := 0, cells := 0, slots := 0, locals := 0 }) (pR [.int (I a), .int (I b)] E []) (qS (some (.int (I (sooner a b))))) 0 0 (fun _ => False) := by
  refine mk_met (by decide) rfl (Nat.le_of_ble_eq_true rfl) ?_
  intro p e s m args below meth c hx hb hrt hml hts hown hlocks hnm hP hK ls hl
  have hown : s.vm.findClass RX6 = some m.cls := hown
  have hl : lv_has ls 2 [(0, .int (I a)), (1, .int (I b))] := hl
  have hS : va_S (fun _ => False) s.heap s.heap [] := va_S.rf
  refine lv_iload_n hx hb dX6_sooner_0 rfl (lv_lk hl rfl) ?_
  refine iv_iconst hx hb dX6_sooner_1 ?_
  refine iv_icmp_eq (tgt := 15) hx hb dX6_sooner_2 (by decide) (by omega) (by omega) (fun c_2 => ?_) (fun c_2 => ?_)
  · refine lv_iload_n hx hb dX6_sooner_15 rfl (lv_lk hl rfl) ?_
    refine lv_goto (tgt := 20) hx hb dX6_sooner_16 (by decide) ?_
    refine iv_eq (sooner a b) (by rw [sooner, if_pos (by omega)]) ?_
    exact W.iret hx hb hrt (fun t ht hW => ⟨rfl, ht⟩) hS.2.2 dX6_sooner_20 hlocks
  · refine lv_iload_n hx hb dX6_sooner_5 rfl (lv_lk hl rfl) ?_
    refine iv_iconst hx hb dX6_sooner_6 ?_
    refine iv_icmp_eq (tgt := 19) hx hb dX6_sooner_7 (by decide) (by omega) (by omega) (fun c_7 => ?_) (fun c_7 => ?_)
    · refine lv_iload_n hx hb dX6_sooner_19 rfl (lv_lk hl rfl) ?_
      refine iv_eq (sooner a b) (by rw [sooner, if_neg (by omega)]) ?_
      exact W.iret hx hb hrt (fun t ht hW => ⟨rfl, ht⟩) hS.2.2 dX6_sooner_20 hlocks
    · refine lv_iload_n hx hb dX6_sooner_10 rfl (lv_lk hl rfl) ?_
      refine lv_iload_n hx hb dX6_sooner_11 rfl (lv_lk hl rfl) ?_
      refine iv_icmp_ge (tgt := 19) hx hb dX6_sooner_12 (by decide) (by omega) (by omega) (fun c_12 => ?_) (fun c_12 => ?_)
      · refine lv_iload_n hx hb dX6_sooner_19 rfl (lv_lk hl rfl) ?_
        refine iv_eq (sooner a b) (by rw [sooner, if_neg (by omega)]) ?_
        exact W.iret hx hb hrt (fun t ht hW => ⟨rfl, ht⟩) hS.2.2 dX6_sooner_20 hlocks
      · refine lv_iload_n hx hb dX6_sooner_15 rfl (lv_lk hl rfl) ?_
        refine lv_goto (tgt := 20) hx hb dX6_sooner_16 (by decide) ?_
        refine iv_eq (sooner a b) (by rw [sooner, if_pos (by omega)]) ?_
        exact W.iret hx hb hrt (fun t ht hW => ⟨rfl, ht⟩) hS.2.2 dX6_sooner_20 hlocks
set_option maxHeartbeats 4000000 in
set_option maxRecDepth 100000 in
theorem m_X6_tells (l : Launch) (E : Env3) (ρ : Nat → Nat) (th rc tl pa kd nm : Int) (st hi ke tx wy : S) (hρ : dR ρ 6) (v : Int) : Met l yX6_tells (Cond.code yX6_tells cX6_tells 2 (some .int) :: ALL) ({ frames := 0, cells := 0, slots := 0, locals := 0 }) (pR [.ref (ρ 0), .int (I v)] E (refW E ρ th rc tl pa kd nm st hi ke tx wy)) (qW (some (.int (I v))) E (refW E ρ th rc tl pa kd nm st hi ke tx wy) (refW E ρ 0 rc tl pa kd nm st hi ke tx wy)) 0 0 (adIn (refW E ρ th rc tl pa kd nm st hi ke tx wy)) := by
  refine mk_met (by decide) rfl (Nat.le_of_ble_eq_true rfl) ?_
  intro p e s m args below meth c hx hb hrt hml hts hown hlocks hnm hP hK ls hl
  have hown : s.vm.findClass RX6 = some m.cls := hown
  have hl : lv_has ls 2 [(0, .ref (ρ 0)), (1, .int (I v))] := hl
  have hD : va_D (adIn (refW E ρ th rc tl pa kd nm st hi ke tx wy)) (refW E ρ th rc tl pa kd nm st hi ke tx wy) := D_of_dR hρ rfl
  have hS : va_S (adIn (refW E ρ th rc tl pa kd nm st hi ke tx wy)) s.heap s.heap [] := va_S.rf
  refine lv_aload_n hx hb dX6_tells_0 rfl (lv_lk hl rfl) ?_
  refine iv_iconst hx hb dX6_tells_1 ?_
  refine va_put (ci := 6) (ty := .int) hx hb hts inX6 tyX6 tyX6_ok nmX6 hown hK.1 hP (dm hD rfl) hS 0 rfl rfl 0 (by decide) (hts _ fl_X6_32) (fun _ h9 => h9) rfl (by decide +kernel) rfl rfl (Nat.le_of_ble_eq_true rfl) dX6_tells_2 (fun H locs hP _ hS => ?_)
  have hP : va_P E.1 vwCl (refW E ρ 0 rc tl pa kd nm st hi ke tx wy) H := hP
  refine lv_iload_n hx hb dX6_tells_5 rfl (lv_lk hl rfl) ?_
  exact W.iret hx hb hrt (fun t ht hW => ⟨rfl, by rw [ht]; exact hP, hS.F ht⟩) hS.2.2 dX6_tells_6 hlocks
set_option maxHeartbeats 4000000 in
set_option maxRecDepth 100000 in
theorem m_X6_memories (l : Launch) (E : Env3) (ρ : Nat → Nat) (th rc tl pa kd nm : Int) (st hi ke tx wy : S) (T : Int) (hI : IB T st) : Met l yX6_memories (Cond.code yX6_memories cX6_memories 3 (some .int) :: ALL) ({ frames := 1, cells := 0, slots := 0, locals := 22 }) (pR [.ref (ρ 0)] E (refW E ρ th rc tl pa kd nm st hi ke tx wy)) (qS (some (.int (I (memo st))))) 0 0 (fun _ => False) := by
  refine mk_met (by decide) rfl (Nat.le_of_ble_eq_true rfl) ?_
  intro p e s m args below meth c hx hb hrt hml hts hown hlocks hnm hP hK ls hl
  have hown : s.vm.findClass RX6 = some m.cls := hown
  have hl : lv_has ls 3 [(0, .ref (ρ 0))] := hl
  have hS : va_S (fun _ => False) s.heap s.heap [] := va_S.rf
  refine iv_iconst hx hb dX6_memories_0 ?_
  refine lv_istore_n (lv' := [(1, .int (I _)), (0, .ref _)]) hx hb dX6_memories_1 rfl hl (by decide) rfl (fun ls hl => ?_)
  refine iv_iconst hx hb dX6_memories_2 ?_
  refine lv_istore_n (lv' := [(2, .int (I _)), (1, .int (I _)), (0, .ref _)]) hx hb dX6_memories_3 rfl hl (by decide) rfl (fun ls hl => ?_)
  have LOOP4 : ∀ (n9 i : Nat), (i + n9 = 6) → ∀ (locs : List Loc) (ls : Array Slot), va_S (fun _ => False) s.heap s.heap locs → lv_has ls 3 [(0, .ref (ρ 0)), (1, .int (I (sumN (fun z => if 0 < st (6 + 5 * z + 3) then 1 else 0) i))), (2, .int (I (i : Int)))] → W p l e ({ frames := 1, cells := 0, slots := 0, locals := 22 }) s m args below meth c s.heap locs 0 0 (MQ below (qS (some (.int (I (memo st))))) args s 0 0 (fun _ => False)) (F0 m 4 ls []) := by
    intro n9
    induction n9 with
    | zero =>
      intro  i hi9 locs ls hS hl
      obtain rfl : i = 6 := by omega
      refine lv_iload_n hx hb dX6_memories_4 rfl (lv_lk hl rfl) ?_
      refine iv_bipush hx hb dX6_memories_5 (by decide +kernel) ?_
      refine iv_icmp_ge (tgt := 33) hx hb dX6_memories_7 (by decide) (by omega) (by omega) (fun c_7 => ?_) (fun c_7 => by exfalso; omega)
      have e0 : sumN (fun z => if 0 < st (6 + 5 * z + 3) then 1 else 0) 6 = sumN (fun z => if 0 < st (6 + 5 * z + 3) then 1 else 0) 6 + sumN (fun r => if 0 < st (36 + 6 * r + 5) then 1 else 0) 0 := (Int.add_zero _).symm
      rw [e0] at hl
      refine iv_iconst hx hb dX6_memories_33 ?_
      refine lv_istore_n (lv' := [(2, .int (I _)), (0, .ref _), (1, .int (I _))]) hx hb dX6_memories_34 rfl hl (by decide) rfl (fun ls hl => ?_)
      have LOOP35 : ∀ (n9 i : Nat), (i + n9 = 36) → ∀ (locs : List Loc) (ls : Array Slot), va_S (fun _ => False) s.heap s.heap locs → lv_has ls 3 [(0, .ref (ρ 0)), (1, .int (I (sumN (fun z => if 0 < st (6 + 5 * z + 3) then 1 else 0) 6 + sumN (fun r => if 0 < st (36 + 6 * r + 5) then 1 else 0) i))), (2, .int (I (i : Int)))] → W p l e ({ frames := 1, cells := 0, slots := 0, locals := 22 }) s m args below meth c s.heap locs 0 0 (MQ below (qS (some (.int (I (memo st))))) args s 0 0 (fun _ => False)) (F0 m 35 ls []) := by
        intro n9
        induction n9 with
        | zero =>
          intro  i hi9 locs ls hS hl
          obtain rfl : i = 36 := by omega
          refine lv_iload_n hx hb dX6_memories_35 rfl (lv_lk hl rfl) ?_
          refine iv_bipush hx hb dX6_memories_36 (by decide +kernel) ?_
          refine iv_icmp_ge (tgt := 64) hx hb dX6_memories_38 (by decide) (by omega) (by omega) (fun c_38 => ?_) (fun c_38 => by exfalso; omega)
          refine lv_iload_n hx hb dX6_memories_64 rfl (lv_lk hl rfl) ?_
          exact W.iret hx hb hrt (fun t ht hW => ⟨rfl, ht⟩) hS.2.2 dX6_memories_65 hlocks
        | succ n9 ih =>
          intro  i hi9 locs ls hS hl
          have z9 := (hI.2.2.2 i (by omega)).2
          unfold triM at z9
          have z8 := hI.1
          refine lv_iload_n hx hb dX6_memories_35 rfl (lv_lk hl rfl) ?_
          refine iv_bipush hx hb dX6_memories_36 (by decide +kernel) ?_
          refine iv_icmp_ge (tgt := 64) hx hb dX6_memories_38 (by decide) (by omega) (by omega) (fun c_38 => by exfalso; omega) (fun c_38 => ?_)
          refine lv_iload_n hx hb dX6_memories_41 rfl (lv_lk hl rfl) ?_
          refine lv_aload_n hx hb dX6_memories_42 rfl (lv_lk hl rfl) ?_
          refine lv_iload_n hx hb dX6_memories_43 rfl (lv_lk hl rfl) ?_
          refine iv_iconst hx hb dX6_memories_44 ?_
          refine call_S (va_runV ⟨hx, hb, hml, hown, hts⟩ (m_X6_of l E ρ th rc tl pa kd nm st hi ke tx wy i 5 (by omega) (by decide)) (cwV 2 hts (gi_V ml_X6_61 im_X6_of sl_X6_of it_X6 cd_X6_of) rfl rfl rfl (by decide +kernel) ⟨Nat.le_of_ble_eq_true rfl, Nat.le_of_ble_eq_true rfl⟩) (pR_V (q0 := 0) (ci := 6) hP hK rfl rfl) rfl rfl hl.1 rfl (lv_room (Nat.le_of_ble_eq_true rfl)) dX6_memories_45 ⟨Nat.le_of_ble_eq_true rfl, Nat.le_of_ble_eq_true rfl⟩) (fun _ h => h) hS rfl (fun locs hS => ?_)
          refine iv_if_le (tgt := 55) hx hb dX6_memories_48 (by decide) (by omega) (fun c_48 => ?_) (fun c_48 => ?_)
          · refine iv_iconst hx hb dX6_memories_55 ?_
            refine iv_iadd hx hb dX6_memories_56 ?_
            refine iv_eq (sumN (fun z => if 0 < st (6 + 5 * z + 3) then 1 else 0) 6 + sumN (fun r => if 0 < st (36 + 6 * r + 5) then 1 else 0) (i + 1)) (by show _ = sumN (fun z => if 0 < st (6 + 5 * z + 3) then 1 else 0) 6 + (sumN (fun r => if 0 < st (36 + 6 * r + 5) then 1 else 0) i + (if 0 < st (36 + 6 * i + 5) then 1 else 0)); rw [if_neg (by omega)]; omega) ?_
            refine lv_istore_n (lv' := [(1, .int (I _)), (0, .ref _), (2, .int (I _))]) hx hb dX6_memories_57 rfl hl (by decide) rfl (fun ls hl => ?_)
            refine iv_iinc (k := 2) hx hb dX6_memories_58 hl rfl (((i + 1 : Nat) : Int)) (by omega) (by decide) [(2, .int (I _)), (1, .int (I _)), (0, .ref _)] rfl (fun ls hl => ?_)
            refine lv_goto (tgt := 35) hx hb dX6_memories_61 (by decide) ?_
            exact ih (i + 1) (by omega) locs ls hS (lv_sub hl [2, 1, 0] rfl)
          · refine iv_iconst hx hb dX6_memories_51 ?_
            refine lv_goto (tgt := 56) hx hb dX6_memories_52 (by decide) ?_
            refine iv_iadd hx hb dX6_memories_56 ?_
            refine iv_eq (sumN (fun z => if 0 < st (6 + 5 * z + 3) then 1 else 0) 6 + sumN (fun r => if 0 < st (36 + 6 * r + 5) then 1 else 0) (i + 1)) (by show _ = sumN (fun z => if 0 < st (6 + 5 * z + 3) then 1 else 0) 6 + (sumN (fun r => if 0 < st (36 + 6 * r + 5) then 1 else 0) i + (if 0 < st (36 + 6 * i + 5) then 1 else 0)); rw [if_pos (by omega)]; omega) ?_
            refine lv_istore_n (lv' := [(1, .int (I _)), (0, .ref _), (2, .int (I _))]) hx hb dX6_memories_57 rfl hl (by decide) rfl (fun ls hl => ?_)
            refine iv_iinc (k := 2) hx hb dX6_memories_58 hl rfl (((i + 1 : Nat) : Int)) (by omega) (by decide) [(2, .int (I _)), (1, .int (I _)), (0, .ref _)] rfl (fun ls hl => ?_)
            refine lv_goto (tgt := 35) hx hb dX6_memories_61 (by decide) ?_
            exact ih (i + 1) (by omega) locs ls hS (lv_sub hl [2, 1, 0] rfl)
      exact LOOP35 36 0 (by omega) _ _ hS (lv_sub hl [1, 2, 0] rfl)
    | succ n9 ih =>
      intro  i hi9 locs ls hS hl
      have z9 := (hI.2.2.1 i (by omega)).2.2.2.2.2
      have z8 := hI.1
      refine lv_iload_n hx hb dX6_memories_4 rfl (lv_lk hl rfl) ?_
      refine iv_bipush hx hb dX6_memories_5 (by decide +kernel) ?_
      refine iv_icmp_ge (tgt := 33) hx hb dX6_memories_7 (by decide) (by omega) (by omega) (fun c_7 => by exfalso; omega) (fun c_7 => ?_)
      refine lv_iload_n hx hb dX6_memories_10 rfl (lv_lk hl rfl) ?_
      refine lv_aload_n hx hb dX6_memories_11 rfl (lv_lk hl rfl) ?_
      refine lv_iload_n hx hb dX6_memories_12 rfl (lv_lk hl rfl) ?_
      refine iv_iconst hx hb dX6_memories_13 ?_
      refine call_S (va_runV ⟨hx, hb, hml, hown, hts⟩ (m_X6_ofZone l E ρ th rc tl pa kd nm st hi ke tx wy i 3 (by omega) (by decide)) (cwV 2 hts (gi_V ml_X6_50 im_X6_ofZone sl_X6_ofZone it_X6 cd_X6_ofZone) rfl rfl rfl (by decide +kernel) ⟨Nat.le_of_ble_eq_true rfl, Nat.le_of_ble_eq_true rfl⟩) (pR_V (q0 := 0) (ci := 6) hP hK rfl rfl) rfl rfl hl.1 rfl (lv_room (Nat.le_of_ble_eq_true rfl)) dX6_memories_14 ⟨Nat.le_of_ble_eq_true rfl, Nat.le_of_ble_eq_true rfl⟩) (fun _ h => h) hS rfl (fun locs hS => ?_)
      refine iv_if_le (tgt := 24) hx hb dX6_memories_17 (by decide) (by omega) (fun c_17 => ?_) (fun c_17 => ?_)
      · refine iv_iconst hx hb dX6_memories_24 ?_
        refine iv_iadd hx hb dX6_memories_25 ?_
        refine iv_eq (sumN (fun z => if 0 < st (6 + 5 * z + 3) then 1 else 0) (i + 1)) (by show _ = sumN (fun z => if 0 < st (6 + 5 * z + 3) then 1 else 0) i + (if 0 < st (6 + 5 * i + 3) then 1 else 0); rw [if_neg (by omega)]) ?_
        refine lv_istore_n (lv' := [(1, .int (I _)), (0, .ref _), (2, .int (I _))]) hx hb dX6_memories_26 rfl hl (by decide) rfl (fun ls hl => ?_)
        refine iv_iinc (k := 2) hx hb dX6_memories_27 hl rfl (((i + 1 : Nat) : Int)) (by omega) (by decide) [(2, .int (I _)), (1, .int (I _)), (0, .ref _)] rfl (fun ls hl => ?_)
        refine lv_goto (tgt := 4) hx hb dX6_memories_30 (by decide) ?_
        exact ih (i + 1) (by omega) locs ls hS (lv_sub hl [2, 1, 0] rfl)
      · refine iv_iconst hx hb dX6_memories_20 ?_
        refine lv_goto (tgt := 25) hx hb dX6_memories_21 (by decide) ?_
        refine iv_iadd hx hb dX6_memories_25 ?_
        refine iv_eq (sumN (fun z => if 0 < st (6 + 5 * z + 3) then 1 else 0) (i + 1)) (by show _ = sumN (fun z => if 0 < st (6 + 5 * z + 3) then 1 else 0) i + (if 0 < st (6 + 5 * i + 3) then 1 else 0); rw [if_pos (by omega)]) ?_
        refine lv_istore_n (lv' := [(1, .int (I _)), (0, .ref _), (2, .int (I _))]) hx hb dX6_memories_26 rfl hl (by decide) rfl (fun ls hl => ?_)
        refine iv_iinc (k := 2) hx hb dX6_memories_27 hl rfl (((i + 1 : Nat) : Int)) (by omega) (by decide) [(2, .int (I _)), (1, .int (I _)), (0, .ref _)] rfl (fun ls hl => ?_)
        refine lv_goto (tgt := 4) hx hb dX6_memories_30 (by decide) ?_
        exact ih (i + 1) (by omega) locs ls hS (lv_sub hl [2, 1, 0] rfl)
  exact LOOP4 6 0 (by omega) _ _ hS (lv_sub hl [2, 1, 0] rfl)
set_option maxHeartbeats 4000000 in
set_option maxRecDepth 100000 in
theorem m_X6_remembered (l : Launch) (E : Env3) (ρ : Nat → Nat) (th rc tl pa kd nm : Int) (st hi ke tx wy : S) (hρ : dR ρ 6) (T : Int) (hI : IB T st) : Met l yX6_remembered (Cond.code yX6_remembered cX6_remembered 1 (some .int) :: ALL) ({ frames := 2, cells := 0, slots := 0, locals := 44 }) (pR [.ref (ρ 0)] E (refW E ρ th rc tl pa kd nm st hi ke tx wy)) (qW (some (.int (I (memo st)))) E (refW E ρ th rc tl pa kd nm st hi ke tx wy) (refW E ρ 0 rc tl pa kd nm st hi ke tx wy)) 0 0 (adIn (refW E ρ th rc tl pa kd nm st hi ke tx wy)) := by
  refine mk_met (by decide) rfl (Nat.le_of_ble_eq_true rfl) ?_
  intro p e s m args below meth c hx hb hrt hml hts hown hlocks hnm hP hK ls hl
  have hown : s.vm.findClass RX6 = some m.cls := hown
  have hl : lv_has ls 1 [(0, .ref (ρ 0))] := hl
  have hD : va_D (adIn (refW E ρ th rc tl pa kd nm st hi ke tx wy)) (refW E ρ th rc tl pa kd nm st hi ke tx wy) := D_of_dR hρ rfl
  have hS : va_S (adIn (refW E ρ th rc tl pa kd nm st hi ke tx wy)) s.heap s.heap [] := va_S.rf
  refine lv_aload_n hx hb dX6_remembered_0 rfl (lv_lk hl rfl) ?_
  refine lv_aload_n hx hb dX6_remembered_1 rfl (lv_lk hl rfl) ?_
  refine call_S (va_runV ⟨hx, hb, hml, hown, hts⟩ (m_X6_memories l E ρ th rc tl pa kd nm st hi ke tx wy T hI) (cwV 0 hts (gi_V ml_X6_112 im_X6_memories sl_X6_memories it_X6 cd_X6_memories) rfl rfl rfl (by decide +kernel) ⟨Nat.le_of_ble_eq_true rfl, Nat.le_of_ble_eq_true rfl⟩) (pR_V (q0 := 0) (ci := 6) hP hK rfl rfl) rfl rfl hl.1 rfl (lv_room (Nat.le_of_ble_eq_true rfl)) dX6_remembered_2 ⟨Nat.le_of_ble_eq_true rfl, Nat.le_of_ble_eq_true rfl⟩) (fun _ h => h) hS rfl (fun locs hS => ?_)
  refine call_F (va_runV ⟨hx, hb, hml, hown, hts⟩ (m_X6_tells l E ρ th rc tl pa kd nm st hi ke tx wy hρ _) (cwV 1 hts (gi_V ml_X6_94 im_X6_tells sl_X6_tells it_X6 cd_X6_tells) rfl rfl rfl (by decide +kernel) ⟨Nat.le_of_ble_eq_true rfl, Nat.le_of_ble_eq_true rfl⟩) (pR_V (q0 := 0) (ci := 6) hP hK rfl rfl) rfl rfl hl.1 rfl (lv_room (Nat.le_of_ble_eq_true rfl)) dX6_remembered_5 ⟨Nat.le_of_ble_eq_true rfl, Nat.le_of_ble_eq_true rfl⟩) (dm hD rfl) hS rfl (fun H locs hP hS => ?_)
  have hP : va_P E.1 vwCl (refW E ρ 0 rc tl pa kd nm st hi ke tx wy) H := hP
  exact W.iret hx hb hrt (fun t ht hW => ⟨rfl, by rw [ht]; exact hP, hS.F ht⟩) hS.2.2 dX6_remembered_8 hlocks
set_option maxHeartbeats 4000000 in
set_option maxRecDepth 100000 in
theorem m_X6_rememberedByAccount (l : Launch) (E : Env3) (ρ : Nat → Nat) (th rc tl pa kd nm : Int) (st hi ke tx wy : S) (hρ : dR ρ 6) : Met l yX6_rememberedByAccount (Cond.code yX6_rememberedByAccount cX6_rememberedByAccount 1 (some .int) :: ALL) ({ frames := 1, cells := 0, slots := 0, locals := 21 }) (pR [.ref (ρ 0)] E (refW E ρ th rc tl pa kd nm st hi ke tx wy)) (qW (some (.int (I (st 4 - st 5)))) E (refW E ρ th rc tl pa kd nm st hi ke tx wy) (refW E ρ 0 rc tl pa kd nm st hi ke tx wy)) 0 0 (adIn (refW E ρ th rc tl pa kd nm st hi ke tx wy)) := by
  refine mk_met (by decide) rfl (Nat.le_of_ble_eq_true rfl) ?_
  intro p e s m args below meth c hx hb hrt hml hts hown hlocks hnm hP hK ls hl
  have hown : s.vm.findClass RX6 = some m.cls := hown
  have hl : lv_has ls 1 [(0, .ref (ρ 0))] := hl
  have hD : va_D (adIn (refW E ρ th rc tl pa kd nm st hi ke tx wy)) (refW E ρ th rc tl pa kd nm st hi ke tx wy) := D_of_dR hρ rfl
  have hS : va_S (adIn (refW E ρ th rc tl pa kd nm st hi ke tx wy)) s.heap s.heap [] := va_S.rf
  refine lv_aload_n hx hb dX6_rememberedByAccount_0 rfl (lv_lk hl rfl) ?_
  refine lv_aload_n hx hb dX6_rememberedByAccount_1 rfl (lv_lk hl rfl) ?_
  refine va_get (D := E.1) (ci := 6) hx hb hts inX6 hown hK.1 hP 0 rfl rfl 1 (by decide) (hts _ fl_X6_7) (fun _ h9 => h9) rfl dX6_rememberedByAccount_2 ?_
  refine iv_iconst hx hb dX6_rememberedByAccount_5 ?_
  refine iv_iald hx hb hK hP 1 rfl (4) (by omega) (by omega) dX6_rememberedByAccount_6 ?_
  refine lv_aload_n hx hb dX6_rememberedByAccount_7 rfl (lv_lk hl rfl) ?_
  refine va_get (D := E.1) (ci := 6) hx hb hts inX6 hown hK.1 hP 0 rfl rfl 1 (by decide) (hts _ fl_X6_7) (fun _ h9 => h9) rfl dX6_rememberedByAccount_8 ?_
  refine iv_iconst hx hb dX6_rememberedByAccount_11 ?_
  refine iv_iald hx hb hK hP 1 rfl (5) (by omega) (by omega) dX6_rememberedByAccount_12 ?_
  refine iv_isub hx hb dX6_rememberedByAccount_13 ?_
  refine call_F (va_runV ⟨hx, hb, hml, hown, hts⟩ (m_X6_tells l E ρ th rc tl pa kd nm st hi ke tx wy hρ _) (cwV 1 hts (gi_V ml_X6_94 im_X6_tells sl_X6_tells it_X6 cd_X6_tells) rfl rfl rfl (by decide +kernel) ⟨Nat.le_of_ble_eq_true rfl, Nat.le_of_ble_eq_true rfl⟩) (pR_V (q0 := 0) (ci := 6) hP hK rfl rfl) rfl rfl hl.1 rfl (lv_room (Nat.le_of_ble_eq_true rfl)) dX6_rememberedByAccount_14 ⟨Nat.le_of_ble_eq_true rfl, Nat.le_of_ble_eq_true rfl⟩) (dm hD rfl) hS rfl (fun H locs hP hS => ?_)
  have hP : va_P E.1 vwCl (refW E ρ 0 rc tl pa kd nm st hi ke tx wy) H := hP
  exact W.iret hx hb hrt (fun t ht hW => ⟨rfl, by rw [ht]; exact hP, hS.F ht⟩) hS.2.2 dX6_rememberedByAccount_17 hlocks
set_option maxHeartbeats 4000000 in
set_option maxRecDepth 100000 in
theorem m_X6_untilForgetting (l : Launch) (E : Env3) (ρ : Nat → Nat) (th rc tl pa kd nm : Int) (st hi ke tx wy : S) (T : Int) (hI : IB T st) : Met l yX6_untilForgetting (Cond.code yX6_untilForgetting cX6_untilForgetting 3 (some .int) :: ALL) ({ frames := 1, cells := 0, slots := 0, locals := 22 }) (pR [.ref (ρ 0)] E (refW E ρ th rc tl pa kd nm st hi ke tx wy)) (qS (some (.int (I (untl st))))) 0 0 (fun _ => False) := by
  refine mk_met (by decide) rfl (Nat.le_of_ble_eq_true rfl) ?_
  intro p e s m args below meth c hx hb hrt hml hts hown hlocks hnm hP hK ls hl
  have hown : s.vm.findClass RX6 = some m.cls := hown
  have hl : lv_has ls 3 [(0, .ref (ρ 0))] := hl
  have hS : va_S (fun _ => False) s.heap s.heap [] := va_S.rf
  refine iv_iconst hx hb dX6_untilForgetting_0 ?_
  refine lv_istore_n (lv' := [(1, .int (I _)), (0, .ref _)]) hx hb dX6_untilForgetting_1 rfl hl (by decide) rfl (fun ls hl => ?_)
  refine iv_iconst hx hb dX6_untilForgetting_2 ?_
  refine lv_istore_n (lv' := [(2, .int (I _)), (1, .int (I _)), (0, .ref _)]) hx hb dX6_untilForgetting_3 rfl hl (by decide) rfl (fun ls hl => ?_)
  have LOOP4 : ∀ (n9 i : Nat), (i + n9 = 6) → ∀ (locs : List Loc) (ls : Array Slot), va_S (fun _ => False) s.heap s.heap locs → lv_has ls 3 [(0, .ref (ρ 0)), (1, .int (I (foldN (fun a z => sooner a (left st (st (6 + 5 * z + 3)))) i (-1)))), (2, .int (I (i : Int)))] → W p l e ({ frames := 1, cells := 0, slots := 0, locals := 22 }) s m args below meth c s.heap locs 0 0 (MQ below (qS (some (.int (I (untl st))))) args s 0 0 (fun _ => False)) (F0 m 4 ls []) := by
    intro n9
    induction n9 with
    | zero =>
      intro  i hi9 locs ls hS hl
      obtain rfl : i = 6 := by omega
      refine lv_iload_n hx hb dX6_untilForgetting_4 rfl (lv_lk hl rfl) ?_
      refine iv_bipush hx hb dX6_untilForgetting_5 (by decide +kernel) ?_
      refine iv_icmp_ge (tgt := 31) hx hb dX6_untilForgetting_7 (by decide) (by omega) (by omega) (fun c_7 => ?_) (fun c_7 => by exfalso; omega)
      refine iv_iconst hx hb dX6_untilForgetting_31 ?_
      refine lv_istore_n (lv' := [(2, .int (I _)), (0, .ref _), (1, .int (I _))]) hx hb dX6_untilForgetting_32 rfl hl (by decide) rfl (fun ls hl => ?_)
      have LOOP33 : ∀ (n9 i : Nat), (i + n9 = 36) → ∀ (locs : List Loc) (ls : Array Slot), va_S (fun _ => False) s.heap s.heap locs → lv_has ls 3 [(0, .ref (ρ 0)), (1, .int (I (foldN (fun a r => sooner a (left st (st (36 + 6 * r + 5)))) i (foldN (fun a z => sooner a (left st (st (6 + 5 * z + 3)))) 6 (-1))))), (2, .int (I (i : Int)))] → W p l e ({ frames := 1, cells := 0, slots := 0, locals := 22 }) s m args below meth c s.heap locs 0 0 (MQ below (qS (some (.int (I (untl st))))) args s 0 0 (fun _ => False)) (F0 m 33 ls []) := by
        intro n9
        induction n9 with
        | zero =>
          intro  i hi9 locs ls hS hl
          obtain rfl : i = 36 := by omega
          refine lv_iload_n hx hb dX6_untilForgetting_33 rfl (lv_lk hl rfl) ?_
          refine iv_bipush hx hb dX6_untilForgetting_34 (by decide +kernel) ?_
          refine iv_icmp_ge (tgt := 60) hx hb dX6_untilForgetting_36 (by decide) (by omega) (by omega) (fun c_36 => ?_) (fun c_36 => by exfalso; omega)
          refine lv_iload_n hx hb dX6_untilForgetting_60 rfl (lv_lk hl rfl) ?_
          exact W.iret hx hb hrt (fun t ht hW => ⟨rfl, ht⟩) hS.2.2 dX6_untilForgetting_61 hlocks
        | succ n9 ih =>
          intro  i hi9 locs ls hS hl
          have z9 := (hI.2.2.2 i (by omega)).2
          unfold triM at z9
          have z8 := hI.1
          have z7 := untl_rngR hI i (by omega)
          have z6 := left_rng hI (st (36 + 6 * i + 5)) (by omega)
          refine lv_iload_n hx hb dX6_untilForgetting_33 rfl (lv_lk hl rfl) ?_
          refine iv_bipush hx hb dX6_untilForgetting_34 (by decide +kernel) ?_
          refine iv_icmp_ge (tgt := 60) hx hb dX6_untilForgetting_36 (by decide) (by omega) (by omega) (fun c_36 => by exfalso; omega) (fun c_36 => ?_)
          refine lv_iload_n hx hb dX6_untilForgetting_39 rfl (lv_lk hl rfl) ?_
          refine lv_aload_n hx hb dX6_untilForgetting_40 rfl (lv_lk hl rfl) ?_
          refine lv_aload_n hx hb dX6_untilForgetting_41 rfl (lv_lk hl rfl) ?_
          refine lv_iload_n hx hb dX6_untilForgetting_42 rfl (lv_lk hl rfl) ?_
          refine iv_iconst hx hb dX6_untilForgetting_43 ?_
          refine call_S (va_runV ⟨hx, hb, hml, hown, hts⟩ (m_X6_of l E ρ th rc tl pa kd nm st hi ke tx wy i 5 (by omega) (by decide)) (cwV 2 hts (gi_V ml_X6_61 im_X6_of sl_X6_of it_X6 cd_X6_of) rfl rfl rfl (by decide +kernel) ⟨Nat.le_of_ble_eq_true rfl, Nat.le_of_ble_eq_true rfl⟩) (pR_V (q0 := 0) (ci := 6) hP hK rfl rfl) rfl rfl hl.1 rfl (lv_room (Nat.le_of_ble_eq_true rfl)) dX6_untilForgetting_44 ⟨Nat.le_of_ble_eq_true rfl, Nat.le_of_ble_eq_true rfl⟩) (fun _ h => h) hS rfl (fun locs hS => ?_)
          refine call_S (va_runV ⟨hx, hb, hml, hown, hts⟩ (m_X6_leftUntil l E ρ th rc tl pa kd nm st hi ke tx wy _ (by omega)) (cwV 1 hts (gi_V ml_X6_109 im_X6_leftUntil sl_X6_leftUntil it_X6 cd_X6_leftUntil) rfl rfl rfl (by decide +kernel) ⟨Nat.le_of_ble_eq_true rfl, Nat.le_of_ble_eq_true rfl⟩) (pR_V (q0 := 0) (ci := 6) hP hK rfl rfl) rfl rfl hl.1 rfl (lv_room (Nat.le_of_ble_eq_true rfl)) dX6_untilForgetting_47 ⟨Nat.le_of_ble_eq_true rfl, Nat.le_of_ble_eq_true rfl⟩) (fun _ h => h) hS rfl (fun locs hS => ?_)
          refine call_S (va_runS ⟨hx, hb, hml, hown, hts⟩ (m_X6_sooner l E _ _ (by omega) (by omega)) (va_cwS 2 hts (gi_S ml_X6_116 st_X6_sooner it_X6 cd_X6_sooner) rfl rfl rfl (by decide +kernel) ⟨Nat.le_of_ble_eq_true rfl, Nat.le_of_ble_eq_true rfl⟩) (pR_S (hP.sub (ws' := []) [] rfl) hK) rfl rfl hl.1 rfl (lv_room (Nat.le_of_ble_eq_true rfl)) dX6_untilForgetting_50 ⟨Nat.le_of_ble_eq_true rfl, Nat.le_of_ble_eq_true rfl⟩) (fun _ h => h) hS rfl (fun locs hS => ?_)
          refine lv_istore_n (lv' := [(1, .int (I _)), (0, .ref _), (2, .int (I _))]) hx hb dX6_untilForgetting_53 rfl hl (by decide) rfl (fun ls hl => ?_)
          refine iv_iinc (k := 2) hx hb dX6_untilForgetting_54 hl rfl (((i + 1 : Nat) : Int)) (by omega) (by decide) [(2, .int (I _)), (1, .int (I _)), (0, .ref _)] rfl (fun ls hl => ?_)
          refine lv_goto (tgt := 33) hx hb dX6_untilForgetting_57 (by decide) ?_
          exact ih (i + 1) (by omega) locs ls hS (lv_sub hl [2, 1, 0] rfl)
      exact LOOP33 36 0 (by omega) _ _ hS (lv_sub hl [1, 2, 0] rfl)
    | succ n9 ih =>
      intro  i hi9 locs ls hS hl
      have z9 := (hI.2.2.1 i (by omega)).2.2.2.2.2
      have z8 := hI.1
      have z7 := untl_rngZ hI i (by omega)
      have z6 := left_rng hI (st (6 + 5 * i + 3)) (by omega)
      refine lv_iload_n hx hb dX6_untilForgetting_4 rfl (lv_lk hl rfl) ?_
      refine iv_bipush hx hb dX6_untilForgetting_5 (by decide +kernel) ?_
      refine iv_icmp_ge (tgt := 31) hx hb dX6_untilForgetting_7 (by decide) (by omega) (by omega) (fun c_7 => by exfalso; omega) (fun c_7 => ?_)
      refine lv_iload_n hx hb dX6_untilForgetting_10 rfl (lv_lk hl rfl) ?_
      refine lv_aload_n hx hb dX6_untilForgetting_11 rfl (lv_lk hl rfl) ?_
      refine lv_aload_n hx hb dX6_untilForgetting_12 rfl (lv_lk hl rfl) ?_
      refine lv_iload_n hx hb dX6_untilForgetting_13 rfl (lv_lk hl rfl) ?_
      refine iv_iconst hx hb dX6_untilForgetting_14 ?_
      refine call_S (va_runV ⟨hx, hb, hml, hown, hts⟩ (m_X6_ofZone l E ρ th rc tl pa kd nm st hi ke tx wy i 3 (by omega) (by decide)) (cwV 2 hts (gi_V ml_X6_50 im_X6_ofZone sl_X6_ofZone it_X6 cd_X6_ofZone) rfl rfl rfl (by decide +kernel) ⟨Nat.le_of_ble_eq_true rfl, Nat.le_of_ble_eq_true rfl⟩) (pR_V (q0 := 0) (ci := 6) hP hK rfl rfl) rfl rfl hl.1 rfl (lv_room (Nat.le_of_ble_eq_true rfl)) dX6_untilForgetting_15 ⟨Nat.le_of_ble_eq_true rfl, Nat.le_of_ble_eq_true rfl⟩) (fun _ h => h) hS rfl (fun locs hS => ?_)
      refine call_S (va_runV ⟨hx, hb, hml, hown, hts⟩ (m_X6_leftUntil l E ρ th rc tl pa kd nm st hi ke tx wy _ (by omega)) (cwV 1 hts (gi_V ml_X6_109 im_X6_leftUntil sl_X6_leftUntil it_X6 cd_X6_leftUntil) rfl rfl rfl (by decide +kernel) ⟨Nat.le_of_ble_eq_true rfl, Nat.le_of_ble_eq_true rfl⟩) (pR_V (q0 := 0) (ci := 6) hP hK rfl rfl) rfl rfl hl.1 rfl (lv_room (Nat.le_of_ble_eq_true rfl)) dX6_untilForgetting_18 ⟨Nat.le_of_ble_eq_true rfl, Nat.le_of_ble_eq_true rfl⟩) (fun _ h => h) hS rfl (fun locs hS => ?_)
      refine call_S (va_runS ⟨hx, hb, hml, hown, hts⟩ (m_X6_sooner l E _ _ (by omega) (by omega)) (va_cwS 2 hts (gi_S ml_X6_116 st_X6_sooner it_X6 cd_X6_sooner) rfl rfl rfl (by decide +kernel) ⟨Nat.le_of_ble_eq_true rfl, Nat.le_of_ble_eq_true rfl⟩) (pR_S (hP.sub (ws' := []) [] rfl) hK) rfl rfl hl.1 rfl (lv_room (Nat.le_of_ble_eq_true rfl)) dX6_untilForgetting_21 ⟨Nat.le_of_ble_eq_true rfl, Nat.le_of_ble_eq_true rfl⟩) (fun _ h => h) hS rfl (fun locs hS => ?_)
      refine lv_istore_n (lv' := [(1, .int (I _)), (0, .ref _), (2, .int (I _))]) hx hb dX6_untilForgetting_24 rfl hl (by decide) rfl (fun ls hl => ?_)
      refine iv_iinc (k := 2) hx hb dX6_untilForgetting_25 hl rfl (((i + 1 : Nat) : Int)) (by omega) (by decide) [(2, .int (I _)), (1, .int (I _)), (0, .ref _)] rfl (fun ls hl => ?_)
      refine lv_goto (tgt := 4) hx hb dX6_untilForgetting_28 (by decide) ?_
      exact ih (i + 1) (by omega) locs ls hS (lv_sub hl [2, 1, 0] rfl)
  exact LOOP4 6 0 (by omega) _ _ hS (lv_sub hl [2, 1, 0] rfl)
set_option maxHeartbeats 4000000 in
set_option maxRecDepth 100000 in
theorem m_X6_ticksUntilForgetting (l : Launch) (E : Env3) (ρ : Nat → Nat) (th rc tl pa kd nm : Int) (st hi ke tx wy : S) (hρ : dR ρ 6) (T : Int) (hI : IB T st) : Met l yX6_ticksUntilForgetting (Cond.code yX6_ticksUntilForgetting cX6_ticksUntilForgetting 1 (some .int) :: ALL) ({ frames := 2, cells := 0, slots := 0, locals := 44 }) (pR [.ref (ρ 0)] E (refW E ρ th rc tl pa kd nm st hi ke tx wy)) (qW (some (.int (I (untl st)))) E (refW E ρ th rc tl pa kd nm st hi ke tx wy) (refW E ρ 0 rc tl pa kd nm st hi ke tx wy)) 0 0 (adIn (refW E ρ th rc tl pa kd nm st hi ke tx wy)) := by
  refine mk_met (by decide) rfl (Nat.le_of_ble_eq_true rfl) ?_
  intro p e s m args below meth c hx hb hrt hml hts hown hlocks hnm hP hK ls hl
  have hown : s.vm.findClass RX6 = some m.cls := hown
  have hl : lv_has ls 1 [(0, .ref (ρ 0))] := hl
  have hD : va_D (adIn (refW E ρ th rc tl pa kd nm st hi ke tx wy)) (refW E ρ th rc tl pa kd nm st hi ke tx wy) := D_of_dR hρ rfl
  have hS : va_S (adIn (refW E ρ th rc tl pa kd nm st hi ke tx wy)) s.heap s.heap [] := va_S.rf
  refine lv_aload_n hx hb dX6_ticksUntilForgetting_0 rfl (lv_lk hl rfl) ?_
  refine lv_aload_n hx hb dX6_ticksUntilForgetting_1 rfl (lv_lk hl rfl) ?_
  refine call_S (va_runV ⟨hx, hb, hml, hown, hts⟩ (m_X6_untilForgetting l E ρ th rc tl pa kd nm st hi ke tx wy T hI) (cwV 0 hts (gi_V ml_X6_119 im_X6_untilForgetting sl_X6_untilForgetting it_X6 cd_X6_untilForgetting) rfl rfl rfl (by decide +kernel) ⟨Nat.le_of_ble_eq_true rfl, Nat.le_of_ble_eq_true rfl⟩) (pR_V (q0 := 0) (ci := 6) hP hK rfl rfl) rfl rfl hl.1 rfl (lv_room (Nat.le_of_ble_eq_true rfl)) dX6_ticksUntilForgetting_2 ⟨Nat.le_of_ble_eq_true rfl, Nat.le_of_ble_eq_true rfl⟩) (fun _ h => h) hS rfl (fun locs hS => ?_)
  refine call_F (va_runV ⟨hx, hb, hml, hown, hts⟩ (m_X6_tells l E ρ th rc tl pa kd nm st hi ke tx wy hρ _) (cwV 1 hts (gi_V ml_X6_94 im_X6_tells sl_X6_tells it_X6 cd_X6_tells) rfl rfl rfl (by decide +kernel) ⟨Nat.le_of_ble_eq_true rfl, Nat.le_of_ble_eq_true rfl⟩) (pR_V (q0 := 0) (ci := 6) hP hK rfl rfl) rfl rfl hl.1 rfl (lv_room (Nat.le_of_ble_eq_true rfl)) dX6_ticksUntilForgetting_5 ⟨Nat.le_of_ble_eq_true rfl, Nat.le_of_ble_eq_true rfl⟩) (dm hD rfl) hS rfl (fun H locs hP hS => ?_)
  have hP : va_P E.1 vwCl (refW E ρ 0 rc tl pa kd nm st hi ke tx wy) H := hP
  exact W.iret hx hb hrt (fun t ht hW => ⟨rfl, by rw [ht]; exact hP, hS.F ht⟩) hS.2.2 dX6_ticksUntilForgetting_8 hlocks
set_option maxHeartbeats 4000000 in
set_option maxRecDepth 100000 in
theorem m_X6_time (l : Launch) (E : Env3) (ρ : Nat → Nat) (th rc tl pa kd nm : Int) (st hi ke tx wy : S) (hρ : dR ρ 6) : Met l yX6_time (Cond.code yX6_time cX6_time 1 (some .int) :: ALL) ({ frames := 1, cells := 0, slots := 0, locals := 21 }) (pR [.ref (ρ 0)] E (refW E ρ th rc tl pa kd nm st hi ke tx wy)) (qW (some (.int (I (st 0)))) E (refW E ρ th rc tl pa kd nm st hi ke tx wy) (refW E ρ 0 rc tl pa kd nm st hi ke tx wy)) 0 0 (adIn (refW E ρ th rc tl pa kd nm st hi ke tx wy)) := by
  refine mk_met (by decide) rfl (Nat.le_of_ble_eq_true rfl) ?_
  intro p e s m args below meth c hx hb hrt hml hts hown hlocks hnm hP hK ls hl
  have hown : s.vm.findClass RX6 = some m.cls := hown
  have hl : lv_has ls 1 [(0, .ref (ρ 0))] := hl
  have hD : va_D (adIn (refW E ρ th rc tl pa kd nm st hi ke tx wy)) (refW E ρ th rc tl pa kd nm st hi ke tx wy) := D_of_dR hρ rfl
  have hS : va_S (adIn (refW E ρ th rc tl pa kd nm st hi ke tx wy)) s.heap s.heap [] := va_S.rf
  refine lv_aload_n hx hb dX6_time_0 rfl (lv_lk hl rfl) ?_
  refine lv_aload_n hx hb dX6_time_1 rfl (lv_lk hl rfl) ?_
  refine va_get (D := E.1) (ci := 6) hx hb hts inX6 hown hK.1 hP 0 rfl rfl 1 (by decide) (hts _ fl_X6_7) (fun _ h9 => h9) rfl dX6_time_2 ?_
  refine iv_iconst hx hb dX6_time_5 ?_
  refine iv_iald hx hb hK hP 1 rfl (0) (by omega) (by omega) dX6_time_6 ?_
  refine call_F (va_runV ⟨hx, hb, hml, hown, hts⟩ (m_X6_tells l E ρ th rc tl pa kd nm st hi ke tx wy hρ _) (cwV 1 hts (gi_V ml_X6_94 im_X6_tells sl_X6_tells it_X6 cd_X6_tells) rfl rfl rfl (by decide +kernel) ⟨Nat.le_of_ble_eq_true rfl, Nat.le_of_ble_eq_true rfl⟩) (pR_V (q0 := 0) (ci := 6) hP hK rfl rfl) rfl rfl hl.1 rfl (lv_room (Nat.le_of_ble_eq_true rfl)) dX6_time_7 ⟨Nat.le_of_ble_eq_true rfl, Nat.le_of_ble_eq_true rfl⟩) (dm hD rfl) hS rfl (fun H locs hP hS => ?_)
  have hP : va_P E.1 vwCl (refW E ρ 0 rc tl pa kd nm st hi ke tx wy) H := hP
  exact W.iret hx hb hrt (fun t ht hW => ⟨rfl, by rw [ht]; exact hP, hS.F ht⟩) hS.2.2 dX6_time_10 hlocks
set_option maxHeartbeats 4000000 in
set_option maxRecDepth 100000 in
theorem m_X6_solved (l : Launch) (E : Env3) (ρ : Nat → Nat) (th rc tl pa kd nm : Int) (st hi ke tx wy : S) (hρ : dR ρ 6) : Met l yX6_solved (Cond.code yX6_solved cX6_solved 1 (some .int) :: ALL) ({ frames := 1, cells := 0, slots := 0, locals := 21 }) (pR [.ref (ρ 0)] E (refW E ρ th rc tl pa kd nm st hi ke tx wy)) (qW (some (.int (I (st 1)))) E (refW E ρ th rc tl pa kd nm st hi ke tx wy) (refW E ρ 0 rc tl pa kd nm st hi ke tx wy)) 0 0 (adIn (refW E ρ th rc tl pa kd nm st hi ke tx wy)) := by
  refine mk_met (by decide) rfl (Nat.le_of_ble_eq_true rfl) ?_
  intro p e s m args below meth c hx hb hrt hml hts hown hlocks hnm hP hK ls hl
  have hown : s.vm.findClass RX6 = some m.cls := hown
  have hl : lv_has ls 1 [(0, .ref (ρ 0))] := hl
  have hD : va_D (adIn (refW E ρ th rc tl pa kd nm st hi ke tx wy)) (refW E ρ th rc tl pa kd nm st hi ke tx wy) := D_of_dR hρ rfl
  have hS : va_S (adIn (refW E ρ th rc tl pa kd nm st hi ke tx wy)) s.heap s.heap [] := va_S.rf
  refine lv_aload_n hx hb dX6_solved_0 rfl (lv_lk hl rfl) ?_
  refine lv_aload_n hx hb dX6_solved_1 rfl (lv_lk hl rfl) ?_
  refine va_get (D := E.1) (ci := 6) hx hb hts inX6 hown hK.1 hP 0 rfl rfl 1 (by decide) (hts _ fl_X6_7) (fun _ h9 => h9) rfl dX6_solved_2 ?_
  refine iv_iconst hx hb dX6_solved_5 ?_
  refine iv_iald hx hb hK hP 1 rfl (1) (by omega) (by omega) dX6_solved_6 ?_
  refine call_F (va_runV ⟨hx, hb, hml, hown, hts⟩ (m_X6_tells l E ρ th rc tl pa kd nm st hi ke tx wy hρ _) (cwV 1 hts (gi_V ml_X6_94 im_X6_tells sl_X6_tells it_X6 cd_X6_tells) rfl rfl rfl (by decide +kernel) ⟨Nat.le_of_ble_eq_true rfl, Nat.le_of_ble_eq_true rfl⟩) (pR_V (q0 := 0) (ci := 6) hP hK rfl rfl) rfl rfl hl.1 rfl (lv_room (Nat.le_of_ble_eq_true rfl)) dX6_solved_7 ⟨Nat.le_of_ble_eq_true rfl, Nat.le_of_ble_eq_true rfl⟩) (dm hD rfl) hS rfl (fun H locs hP hS => ?_)
  have hP : va_P E.1 vwCl (refW E ρ 0 rc tl pa kd nm st hi ke tx wy) H := hP
  exact W.iret hx hb hrt (fun t ht hW => ⟨rfl, by rw [ht]; exact hP, hS.F ht⟩) hS.2.2 dX6_solved_10 hlocks
set_option maxHeartbeats 4000000 in
set_option maxRecDepth 100000 in
theorem m_X6_questions (l : Launch) (E : Env3) (ρ : Nat → Nat) (th rc tl pa kd nm : Int) (st hi ke tx wy : S) (hρ : dR ρ 6) : Met l yX6_questions (Cond.code yX6_questions cX6_questions 1 (some .int) :: ALL) ({ frames := 1, cells := 0, slots := 0, locals := 21 }) (pR [.ref (ρ 0)] E (refW E ρ th rc tl pa kd nm st hi ke tx wy)) (qW (some (.int (I (st 2)))) E (refW E ρ th rc tl pa kd nm st hi ke tx wy) (refW E ρ 0 rc tl pa kd nm st hi ke tx wy)) 0 0 (adIn (refW E ρ th rc tl pa kd nm st hi ke tx wy)) := by
  refine mk_met (by decide) rfl (Nat.le_of_ble_eq_true rfl) ?_
  intro p e s m args below meth c hx hb hrt hml hts hown hlocks hnm hP hK ls hl
  have hown : s.vm.findClass RX6 = some m.cls := hown
  have hl : lv_has ls 1 [(0, .ref (ρ 0))] := hl
  have hD : va_D (adIn (refW E ρ th rc tl pa kd nm st hi ke tx wy)) (refW E ρ th rc tl pa kd nm st hi ke tx wy) := D_of_dR hρ rfl
  have hS : va_S (adIn (refW E ρ th rc tl pa kd nm st hi ke tx wy)) s.heap s.heap [] := va_S.rf
  refine lv_aload_n hx hb dX6_questions_0 rfl (lv_lk hl rfl) ?_
  refine lv_aload_n hx hb dX6_questions_1 rfl (lv_lk hl rfl) ?_
  refine va_get (D := E.1) (ci := 6) hx hb hts inX6 hown hK.1 hP 0 rfl rfl 1 (by decide) (hts _ fl_X6_7) (fun _ h9 => h9) rfl dX6_questions_2 ?_
  refine iv_iconst hx hb dX6_questions_5 ?_
  refine iv_iald hx hb hK hP 1 rfl (2) (by omega) (by omega) dX6_questions_6 ?_
  refine call_F (va_runV ⟨hx, hb, hml, hown, hts⟩ (m_X6_tells l E ρ th rc tl pa kd nm st hi ke tx wy hρ _) (cwV 1 hts (gi_V ml_X6_94 im_X6_tells sl_X6_tells it_X6 cd_X6_tells) rfl rfl rfl (by decide +kernel) ⟨Nat.le_of_ble_eq_true rfl, Nat.le_of_ble_eq_true rfl⟩) (pR_V (q0 := 0) (ci := 6) hP hK rfl rfl) rfl rfl hl.1 rfl (lv_room (Nat.le_of_ble_eq_true rfl)) dX6_questions_7 ⟨Nat.le_of_ble_eq_true rfl, Nat.le_of_ble_eq_true rfl⟩) (dm hD rfl) hS rfl (fun H locs hP hS => ?_)
  have hP : va_P E.1 vwCl (refW E ρ 0 rc tl pa kd nm st hi ke tx wy) H := hP
  exact W.iret hx hb hrt (fun t ht hW => ⟨rfl, by rw [ht]; exact hP, hS.F ht⟩) hS.2.2 dX6_questions_10 hlocks
set_option maxHeartbeats 4000000 in
set_option maxRecDepth 100000 in
theorem m_X6_hits (l : Launch) (E : Env3) (ρ : Nat → Nat) (th rc tl pa kd nm : Int) (st hi ke tx wy : S) (hρ : dR ρ 6) : Met l yX6_hits (Cond.code yX6_hits cX6_hits 1 (some .int) :: ALL) ({ frames := 1, cells := 0, slots := 0, locals := 21 }) (pR [.ref (ρ 0)] E (refW E ρ th rc tl pa kd nm st hi ke tx wy)) (qW (some (.int (I (st 3)))) E (refW E ρ th rc tl pa kd nm st hi ke tx wy) (refW E ρ 0 rc tl pa kd nm st hi ke tx wy)) 0 0 (adIn (refW E ρ th rc tl pa kd nm st hi ke tx wy)) := by
  refine mk_met (by decide) rfl (Nat.le_of_ble_eq_true rfl) ?_
  intro p e s m args below meth c hx hb hrt hml hts hown hlocks hnm hP hK ls hl
  have hown : s.vm.findClass RX6 = some m.cls := hown
  have hl : lv_has ls 1 [(0, .ref (ρ 0))] := hl
  have hD : va_D (adIn (refW E ρ th rc tl pa kd nm st hi ke tx wy)) (refW E ρ th rc tl pa kd nm st hi ke tx wy) := D_of_dR hρ rfl
  have hS : va_S (adIn (refW E ρ th rc tl pa kd nm st hi ke tx wy)) s.heap s.heap [] := va_S.rf
  refine lv_aload_n hx hb dX6_hits_0 rfl (lv_lk hl rfl) ?_
  refine lv_aload_n hx hb dX6_hits_1 rfl (lv_lk hl rfl) ?_
  refine va_get (D := E.1) (ci := 6) hx hb hts inX6 hown hK.1 hP 0 rfl rfl 1 (by decide) (hts _ fl_X6_7) (fun _ h9 => h9) rfl dX6_hits_2 ?_
  refine iv_iconst hx hb dX6_hits_5 ?_
  refine iv_iald hx hb hK hP 1 rfl (3) (by omega) (by omega) dX6_hits_6 ?_
  refine call_F (va_runV ⟨hx, hb, hml, hown, hts⟩ (m_X6_tells l E ρ th rc tl pa kd nm st hi ke tx wy hρ _) (cwV 1 hts (gi_V ml_X6_94 im_X6_tells sl_X6_tells it_X6 cd_X6_tells) rfl rfl rfl (by decide +kernel) ⟨Nat.le_of_ble_eq_true rfl, Nat.le_of_ble_eq_true rfl⟩) (pR_V (q0 := 0) (ci := 6) hP hK rfl rfl) rfl rfl hl.1 rfl (lv_room (Nat.le_of_ble_eq_true rfl)) dX6_hits_7 ⟨Nat.le_of_ble_eq_true rfl, Nat.le_of_ble_eq_true rfl⟩) (dm hD rfl) hS rfl (fun H locs hP hS => ?_)
  have hP : va_P E.1 vwCl (refW E ρ 0 rc tl pa kd nm st hi ke tx wy) H := hP
  exact W.iret hx hb hrt (fun t ht hW => ⟨rfl, by rw [ht]; exact hP, hS.F ht⟩) hS.2.2 dX6_hits_10 hlocks
