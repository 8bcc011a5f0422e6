/-! the reference, third part; written by ref.py -/
set_option maxHeartbeats 4000000 in
set_option maxRecDepth 100000 in
theorem m_X6_comesTo (l : Launch) (E : Env3) (ρ : Nat → Nat) (th rc tl pa kd nm : Int) (st hi ke tx wy : S) (hρ : dR ρ 6) (T : Int) (hI : IB T st) (z : Nat) (hz : z < 6) : Met l yX6_comesTo (Cond.code yX6_comesTo cX6_comesTo 5 none :: ALL) ({ frames := 2, cells := 0, slots := 0, locals := 44 }) (pR [.ref (ρ 0), .int (I (z : Int))] E (refW E ρ th rc tl pa kd nm st hi ke tx wy)) (qX none E (refW E ρ th rc tl pa kd nm st hi ke tx wy) (fun wy => (refW E ρ th rc tl pa kd nm (come 6 st z) hi ke tx wy))) 0 0 (adIn (refW E ρ th rc tl pa kd nm st hi ke tx wy)) := by
  refine mk_met (by decide) rfl (Nat.le_of_ble_eq_true rfl) ?_
  intro p e s m args below meth c hx hb hrt hml hts hown hlocks hnm hP hK ls hl
  have hown : s.vm.findClass RX6 = some m.cls := hown
  have hl : lv_has ls 5 [(0, .ref (ρ 0)), (1, .int (I (z : Int)))] := hl
  have hD : va_D (adIn (refW E ρ th rc tl pa kd nm st hi ke tx wy)) (refW E ρ th rc tl pa kd nm st hi ke tx wy) := D_of_dR hρ rfl
  have hS : va_S (adIn (refW E ρ th rc tl pa kd nm st hi ke tx wy)) s.heap s.heap [] := va_S.rf
  have CUT37 : ∀ (i : Nat) (wy1 : S), (cs st z i + i ≤ 5) → (∀ j, j < i → cs st z j ≠ 0 ∧ st (6 + 5 * cs st z j + 3) = 0) → (∀ j, j < i → wy1 j = (cs st z j : Int)) → (cs st z i = 0 ∨ st (6 + 5 * cs st z i + 3) ≠ 0) → ∀ (H : Heap) (locs : List Loc) (ls : Array Slot), va_P E.1 vwCl (refW E ρ th rc tl pa kd nm st hi ke tx wy1) H → va_S (adIn (refW E ρ th rc tl pa kd nm st hi ke tx wy)) s.heap H locs → lv_has ls 5 [(0, .ref (ρ 0)), (1, .int (I (z : Int))), (2, .int (I (i : Int))), (3, .int (I (cs st z i : Int)))] → W p l e ({ frames := 2, cells := 0, slots := 0, locals := 44 }) s m args below meth c H locs 0 0 (MQ below (qX none E (refW E ρ th rc tl pa kd nm st hi ke tx wy) (fun wy => (refW E ρ th rc tl pa kd nm (come 6 st z) hi ke tx wy))) args s 0 0 (adIn (refW E ρ th rc tl pa kd nm st hi ke tx wy))) (F0 m 37 ls []) := by
    intro i wy1 h2 h3 h4 hend H locs ls hP hS hl
    refine lv_iload_n hx hb dX6_comesTo_37 rfl (lv_lk hl rfl) ?_
    refine iv_iconst hx hb dX6_comesTo_38 ?_
    refine iv_isub hx hb dX6_comesTo_39 ?_
    refine lv_istore (lv' := [(4, .int (I _)), (0, .ref _), (1, .int (I _)), (2, .int (I _)), (3, .int (I _))]) hx hb dX6_comesTo_40 hl (by decide) rfl (fun ls hl => ?_)
    have LOOP42 : ∀ (n9 : Nat), (n9 ≤ i) → ∀ (H : Heap) (locs : List Loc) (ls : Array Slot), va_P E.1 vwCl (refW E ρ th rc tl pa kd nm (come 6 st (cs st z n9)) hi ke tx wy1) H → va_S (adIn (refW E ρ th rc tl pa kd nm st hi ke tx wy)) s.heap H locs → lv_has ls 5 [(0, .ref (ρ 0)), (3, .int (I (cs st z n9 : Int))), (4, .int (I ((n9 : Int) - 1)))] → W p l e ({ frames := 2, cells := 0, slots := 0, locals := 44 }) s m args below meth c H locs 0 0 (MQ below (qX none E (refW E ρ th rc tl pa kd nm st hi ke tx wy) (fun wy => (refW E ρ th rc tl pa kd nm (come 6 st z) hi ke tx wy))) args s 0 0 (adIn (refW E ρ th rc tl pa kd nm st hi ke tx wy))) (F0 m 42 ls []) := by
      intro n9
      induction n9 with
      | zero =>
        intro   hi9 H locs ls hP hS hl
        refine lv_iload hx hb dX6_comesTo_42 (lv_lk hl rfl) ?_
        refine iv_if_lt (tgt := 101) hx hb dX6_comesTo_44 (by decide) (by omega) (fun c_44 => ?_) (fun c_44 => by exfalso; omega)
        exact W.vret hx hb hrt (fun t ht hW => ⟨rfl, ⟨wy1, by rw [ht]; exact hP⟩, hS.F ht⟩) hS.2.2 dX6_comesTo_101 hlocks
      | succ n9 ih =>
        intro   hi9 H locs ls hP hS hl
        have k2 : cs st z n9 + n9 ≤ 5 := cs_le hI hz n9 (fun j hj => (h3 j (by omega)).1)
        have k3 : cs st z (n9 + 1) + (n9 + 1) ≤ 5 := cs_le hI hz (n9 + 1) (fun j hj => (h3 j (by omega)).1)
        refine lv_iload hx hb dX6_comesTo_42 (lv_lk hl rfl) ?_
        refine iv_if_lt (tgt := 101) hx hb dX6_comesTo_44 (by decide) (by omega) (fun c_44 => by exfalso; omega) (fun c_44 => ?_)
        refine lv_aload_n hx hb dX6_comesTo_47 rfl (lv_lk hl rfl) ?_
        refine lv_iload_n hx hb dX6_comesTo_48 rfl (lv_lk hl rfl) ?_
        refine call_F (va_runV ⟨hx, hb, hml, hown, hts⟩ (m_X6_costs l E ρ th rc tl pa kd nm (come 6 st (cs st z (n9 + 1))) hi ke tx wy1 hρ (cs st z (n9 + 1)) (by omega)) (cwV 1 hts (gi_V ml_X6_71 im_X6_costs sl_X6_costs it_X6 cd_X6_costs) rfl rfl rfl (by decide +kernel) ⟨Nat.le_of_ble_eq_true rfl, Nat.le_of_ble_eq_true rfl⟩) (pR_V (q0 := 0) (ci := 6) hP hK rfl rfl) rfl rfl hl.1 rfl (lv_room (Nat.le_of_ble_eq_true rfl)) dX6_comesTo_49 ⟨Nat.le_of_ble_eq_true rfl, Nat.le_of_ble_eq_true rfl⟩) (dm hD rfl) hS rfl (fun H locs hP hS => ?_)
        have hP : va_P E.1 vwCl (refW E ρ th rc tl pa kd nm (costs (come 6 st (cs st z (n9 + 1))) (cs st z (n9 + 1))) hi ke tx wy1) H := hP
        refine lv_aload_n hx hb dX6_comesTo_52 rfl (lv_lk hl rfl) ?_
        refine lv_aload_n hx hb dX6_comesTo_53 rfl (lv_lk hl rfl) ?_
        refine va_get (D := E.1) (ci := 6) hx hb hts inX6 hown hK.1 hP 0 rfl rfl 7 (by decide) (hts _ fl_X6_22) (fun _ h9 => h9) rfl dX6_comesTo_54 ?_
        refine lv_iload hx hb dX6_comesTo_57 (lv_lk hl rfl) ?_
        refine iv_iald hx hb hK hP 5 rfl (n9) (by omega) (by omega) dX6_comesTo_59 ?_
        refine iv_eq ((cs st z n9 : Int)) (by exact h4 n9 (by omega)) ?_
        refine iv_iconst hx hb dX6_comesTo_60 ?_
        refine lv_aload_n hx hb dX6_comesTo_61 rfl (lv_lk hl rfl) ?_
        refine va_get (D := E.1) (ci := 6) hx hb hts inX6 hown hK.1 hP 0 rfl rfl 1 (by decide) (hts _ fl_X6_7) (fun _ h9 => h9) rfl dX6_comesTo_62 ?_
        refine iv_iconst hx hb dX6_comesTo_65 ?_
        refine iv_iald hx hb hK hP 1 rfl (0) (by omega) (by omega) dX6_comesTo_66 ?_
        refine lv_aload_n hx hb dX6_comesTo_67 rfl (lv_lk hl rfl) ?_
        refine lv_iload_n hx hb dX6_comesTo_68 rfl (lv_lk hl rfl) ?_
        refine iv_iconst hx hb dX6_comesTo_69 ?_
        refine call_S (va_runV ⟨hx, hb, hml, hown, hts⟩ (m_X6_ofZone l E ρ th rc tl pa kd nm (costs (come 6 st (cs st z (n9 + 1))) (cs st z (n9 + 1))) hi ke tx wy1 (cs st z (n9 + 1)) 1 (by omega) (by decide)) (cwV 2 hts (gi_V ml_X6_50 im_X6_ofZone sl_X6_ofZone it_X6 cd_X6_ofZone) rfl rfl rfl (by decide +kernel) ⟨Nat.le_of_ble_eq_true rfl, Nat.le_of_ble_eq_true rfl⟩) (pR_V (q0 := 0) (ci := 6) hP hK rfl rfl) rfl rfl hl.1 rfl (lv_room (Nat.le_of_ble_eq_true rfl)) dX6_comesTo_70 ⟨Nat.le_of_ble_eq_true rfl, Nat.le_of_ble_eq_true rfl⟩) (fun _ h => h) hS rfl (fun locs hS => ?_)
        refine iv_iadd hx hb dX6_comesTo_73 ?_
        refine call_F (va_runV ⟨hx, hb, hml, hown, hts⟩ (m_X6_putsZone l E ρ th rc tl pa kd nm (costs (come 6 st (cs st z (n9 + 1))) (cs st z (n9 + 1))) hi ke tx wy1 hρ (cs st z n9) 3 _ (by omega) (by decide)) (cwV 3 hts (gi_V ml_X6_25 im_X6_putsZone sl_X6_putsZone it_X6 cd_X6_putsZone) rfl rfl rfl (by decide +kernel) ⟨Nat.le_of_ble_eq_true rfl, Nat.le_of_ble_eq_true rfl⟩) (pR_V (q0 := 0) (ci := 6) hP hK rfl rfl) rfl rfl hl.1 rfl (lv_room (Nat.le_of_ble_eq_true rfl)) dX6_comesTo_74 ⟨Nat.le_of_ble_eq_true rfl, Nat.le_of_ble_eq_true rfl⟩) (dm hD rfl) hS rfl (fun H locs hP hS => ?_)
        have hP : va_P E.1 vwCl (refW E ρ th rc tl pa kd nm (up (costs (come 6 st (cs st z (n9 + 1))) (cs st z (n9 + 1))) (6 + 5 * cs st z n9 + 3) (costs (come 6 st (cs st z (n9 + 1))) (cs st z (n9 + 1)) 0 + costs (come 6 st (cs st z (n9 + 1))) (cs st z (n9 + 1)) (6 + 5 * cs st z (n9 + 1) + 1))) hi ke tx wy1) H := hP
        refine lv_aload_n hx hb dX6_comesTo_77 rfl (lv_lk hl rfl) ?_
        refine va_get (D := E.1) (ci := 6) hx hb hts inX6 hown hK.1 hP 0 rfl rfl 1 (by decide) (hts _ fl_X6_7) (fun _ h9 => h9) rfl dX6_comesTo_78 ?_
        refine iv_iconst hx hb dX6_comesTo_81 ?_
        refine lv_dup2_11 hx hb dX6_comesTo_82 rfl rfl ?_
        refine iv_iald hx hb hK hP 1 rfl (4) (by omega) (by omega) dX6_comesTo_83 ?_
        refine iv_iconst hx hb dX6_comesTo_84 ?_
        refine iv_iadd hx hb dX6_comesTo_85 ?_
        refine iv_iast hx hb hK hP (dm hD rfl) hS 1 rfl (4) (by omega) (by omega) dX6_comesTo_86 (refW E ρ th rc tl pa kd nm (way2 (come 6 st (cs st z (n9 + 1))) (cs st z (n9 + 1)) (cs st z n9)) hi ke tx wy1) (rfl) (fun H locs hP hS => ?_)
        refine lv_aload_n hx hb dX6_comesTo_87 rfl (lv_lk hl rfl) ?_
        refine va_get (D := E.1) (ci := 6) hx hb hts inX6 hown hK.1 hP 0 rfl rfl 7 (by decide) (hts _ fl_X6_22) (fun _ h9 => h9) rfl dX6_comesTo_88 ?_
        refine lv_iload hx hb dX6_comesTo_91 (lv_lk hl rfl) ?_
        refine iv_iald hx hb hK hP 5 rfl (n9) (by omega) (by omega) dX6_comesTo_93 ?_
        refine iv_eq ((cs st z n9 : Int)) (by exact h4 n9 (by omega)) ?_
        refine lv_istore_n (lv' := [(3, .int (I _)), (0, .ref _), (4, .int (I _))]) hx hb dX6_comesTo_94 rfl hl (by decide) rfl (fun ls hl => ?_)
        have e7 := come_step hI (z := cs st z n9) (by omega) (h3 n9 (by omega)).1 (h3 n9 (by omega)).2
        have hP : va_P E.1 vwCl (refW E ρ th rc tl pa kd nm (come 6 st (cs st z n9)) hi ke tx wy1) H := by rw [e7]; exact hP
        refine iv_iinc (k := 2) hx hb dX6_comesTo_95 hl rfl ((n9 : Int) - 1) (by omega) (by decide) [(4, .int (I _)), (3, .int (I _)), (0, .ref _)] rfl (fun ls hl => ?_)
        refine lv_goto (tgt := 42) hx hb dX6_comesTo_98 (by decide) ?_
        exact ih (by omega) H locs ls hP hS (lv_sub hl [2, 1, 0] rfl)
    exact LOOP42 i (Nat.le_refl _) _ _ _ (by rw [come_end hend]; exact hP) hS (lv_sub hl [1, 4, 0] rfl)
  refine iv_iconst hx hb dX6_comesTo_0 ?_
  refine lv_istore_n (lv' := [(2, .int (I _)), (0, .ref _), (1, .int (I _))]) hx hb dX6_comesTo_1 rfl hl (by decide) rfl (fun ls hl => ?_)
  refine lv_iload_n hx hb dX6_comesTo_2 rfl (lv_lk hl rfl) ?_
  refine lv_istore_n (lv' := [(3, .int (I _)), (2, .int (I _)), (0, .ref _), (1, .int (I _))]) hx hb dX6_comesTo_3 rfl hl (by decide) rfl (fun ls hl => ?_)
  have LOOP4 : ∀ (n9 i : Nat) (wy1 : S), (cs st z i ≤ n9) → (cs st z i + i ≤ 5) → (∀ j, j < i → cs st z j ≠ 0 ∧ st (6 + 5 * cs st z j + 3) = 0) → (∀ j, j < i → wy1 j = (cs st z j : Int)) → ∀ (H : Heap) (locs : List Loc) (ls : Array Slot), va_P E.1 vwCl (refW E ρ th rc tl pa kd nm st hi ke tx wy1) H → va_S (adIn (refW E ρ th rc tl pa kd nm st hi ke tx wy)) s.heap H locs → lv_has ls 5 [(0, .ref (ρ 0)), (1, .int (I (z : Int))), (2, .int (I (i : Int))), (3, .int (I (cs st z i : Int)))] → W p l e ({ frames := 2, cells := 0, slots := 0, locals := 44 }) s m args below meth c H locs 0 0 (MQ below (qX none E (refW E ρ th rc tl pa kd nm st hi ke tx wy) (fun wy => (refW E ρ th rc tl pa kd nm (come 6 st z) hi ke tx wy))) args s 0 0 (adIn (refW E ρ th rc tl pa kd nm st hi ke tx wy))) (F0 m 4 ls []) := by
    intro n9
    induction n9 with
    | zero =>
      intro  i wy1 h1 h2 h3 h4 H locs ls hP hS hl
      refine lv_iload_n hx hb dX6_comesTo_4 rfl (lv_lk hl rfl) ?_
      refine iv_if_eq (tgt := 37) hx hb dX6_comesTo_5 (by decide) (by omega) (fun c_5 => ?_) (fun c_5 => by exfalso; omega)
      exact CUT37 i wy1 h2 h3 h4 (Or.inl (by omega)) _ _ _ hP hS (lv_sub hl [0, 1, 2, 3] rfl)
    | succ n9 ih =>
      intro  i wy1 h1 h2 h3 h4 H locs ls hP hS hl
      have hb9 := (hI.2.2.1 (cs st z i) (by omega)).2.2.2.2.2
      have h09 := hI.1
      refine lv_iload_n hx hb dX6_comesTo_4 rfl (lv_lk hl rfl) ?_
      refine iv_if_eq (tgt := 37) hx hb dX6_comesTo_5 (by decide) (by omega) (fun c_5 => ?_) (fun c_5 => ?_)
      · exact CUT37 i wy1 h2 h3 h4 (Or.inl (by omega)) _ _ _ hP hS (lv_sub hl [0, 1, 2, 3] rfl)
      · refine lv_aload_n hx hb dX6_comesTo_8 rfl (lv_lk hl rfl) ?_
        refine lv_iload_n hx hb dX6_comesTo_9 rfl (lv_lk hl rfl) ?_
        refine iv_iconst hx hb dX6_comesTo_10 ?_
        refine call_S (va_runV ⟨hx, hb, hml, hown, hts⟩ (m_X6_ofZone l E ρ th rc tl pa kd nm st hi ke tx wy1 (cs st z i) 3 (by omega) (by decide)) (cwV 2 hts (gi_V ml_X6_50 im_X6_ofZone sl_X6_ofZone it_X6 cd_X6_ofZone) rfl rfl rfl (by decide +kernel) ⟨Nat.le_of_ble_eq_true rfl, Nat.le_of_ble_eq_true rfl⟩) (pR_V (q0 := 0) (ci := 6) hP hK rfl rfl) rfl rfl hl.1 rfl (lv_room (Nat.le_of_ble_eq_true rfl)) dX6_comesTo_11 ⟨Nat.le_of_ble_eq_true rfl, Nat.le_of_ble_eq_true rfl⟩) (fun _ h => h) hS rfl (fun locs hS => ?_)
        refine iv_if_ne (tgt := 37) hx hb dX6_comesTo_14 (by decide) (by omega) (fun c_14 => ?_) (fun c_14 => ?_)
        · exact CUT37 i wy1 h2 h3 h4 (Or.inr c_14) _ _ _ hP hS (lv_sub hl [0, 1, 2, 3] rfl)
        · refine lv_aload_n hx hb dX6_comesTo_17 rfl (lv_lk hl rfl) ?_
          refine va_get (D := E.1) (ci := 6) hx hb hts inX6 hown hK.1 hP 0 rfl rfl 7 (by decide) (hts _ fl_X6_22) (fun _ h9 => h9) rfl dX6_comesTo_18 ?_
          refine lv_iload_n hx hb dX6_comesTo_21 rfl (lv_lk hl rfl) ?_
          refine lv_iload_n hx hb dX6_comesTo_22 rfl (lv_lk hl rfl) ?_
          refine iv_iast hx hb hK hP (dm hD rfl) hS 5 rfl (i) (by omega) (by omega) dX6_comesTo_23 (refW E ρ th rc tl pa kd nm st hi ke tx (up wy1 i (cs st z i))) (rfl) (fun H locs hP hS => ?_)
          refine iv_iinc (k := 2) hx hb dX6_comesTo_24 hl rfl (((i + 1 : Nat) : Int)) (by omega) (by decide) [(2, .int (I _)), (0, .ref _), (1, .int (I _)), (3, .int (I _))] rfl (fun ls hl => ?_)
          refine lv_aload_n hx hb dX6_comesTo_27 rfl (lv_lk hl rfl) ?_
          refine lv_iload_n hx hb dX6_comesTo_28 rfl (lv_lk hl rfl) ?_
          refine iv_iconst hx hb dX6_comesTo_29 ?_
          refine call_S (va_runV ⟨hx, hb, hml, hown, hts⟩ (m_X6_ofZone l E ρ th rc tl pa kd nm st hi ke tx (up wy1 i (cs st z i)) (cs st z i) 0 (by omega) (by decide)) (cwV 2 hts (gi_V ml_X6_50 im_X6_ofZone sl_X6_ofZone it_X6 cd_X6_ofZone) rfl rfl rfl (by decide +kernel) ⟨Nat.le_of_ble_eq_true rfl, Nat.le_of_ble_eq_true rfl⟩) (pR_V (q0 := 0) (ci := 6) hP hK rfl rfl) rfl rfl hl.1 rfl (lv_room (Nat.le_of_ble_eq_true rfl)) dX6_comesTo_30 ⟨Nat.le_of_ble_eq_true rfl, Nat.le_of_ble_eq_true rfl⟩) (fun _ h => h) hS rfl (fun locs hS => ?_)
          refine iv_eq (((cs st z (i + 1) : Nat) : Int)) (by exact (IB_par hI (z := cs st z i) (by omega) (by omega)).1) ?_
          refine lv_istore_n (lv' := [(3, .int (I _)), (2, .int (I _)), (0, .ref _), (1, .int (I _))]) hx hb dX6_comesTo_33 rfl hl (by decide) rfl (fun ls hl => ?_)
          refine lv_goto (tgt := 4) hx hb dX6_comesTo_34 (by decide) ?_
          exact ih (i + 1) (up wy1 i (cs st z i)) (by have := (IB_par hI (z := cs st z i) (by omega) (by omega)).2; show par st (cs st z i) ≤ n9; omega) (by have := (IB_par hI (z := cs st z i) (by omega) (by omega)).2; show par st (cs st z i) + (i + 1) ≤ 5; omega) (lt_s h3 ⟨by omega, by omega⟩) (lt_s (fun j hj => by rw [up_ne _ _ (by omega)]; exact h4 j hj) (up_eq _ _ _)) H locs ls hP hS (lv_sub hl [2, 3, 1, 0] rfl)
  exact LOOP4 z 0 wy (Nat.le_refl _) (by show z + 0 ≤ 5; omega) (fun j hj => absurd hj (by omega)) (fun j hj => absurd hj (by omega)) _ _ _ hP hS (lv_sub hl [2, 3, 1, 0] rfl)
