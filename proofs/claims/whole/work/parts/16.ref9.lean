/-! the reference, ninth part: acts; written by ref.py -/
set_option maxHeartbeats 4000000 in
set_option maxRecDepth 100000 in
theorem m_X6_findError (l : Launch) (E : Env3) (ρ : Nat → Nat) (th rc pa kd nm : Int) (st hi ke tx wy : S) (hρ : dR ρ 6) (N : Nat) (hB : txB N tx) : Met l yX6_findError (Cond.code yX6_findError cX6_findError 1 (some .int) :: ALL) ({ frames := 4, cells := 0, slots := 0, locals := 87 }) (pR [.ref (ρ 0)] E (refW E ρ th rc ((N : Int)) pa kd nm st hi ke tx wy)) (qX (some (.int (I (pmF N tx 0 (-1) (-1))))) E (refW E ρ th rc ((N : Int)) pa kd nm st hi ke tx wy) (fun (g : Int × Int × Int) => (refW E ρ th rc ((N : Int)) g.1 g.2.1 g.2.2 st hi ke tx wy))) 0 0 (adIn (refW E ρ th rc ((N : Int)) pa kd nm st hi ke tx wy)) := by
  refine mk_met (by decide) rfl (Nat.le_of_ble_eq_true rfl) ?_
  intro p e s m args below meth c hx hb hrt hml hts hown hlocks hnm hP hK ls hl
  have hown : s.vm.findClass RX6 = some m.cls := hown
  have hl : lv_has ls 1 [(0, .ref (ρ 0))] := hl
  have hD : va_D (adIn (refW E ρ th rc ((N : Int)) pa kd nm st hi ke tx wy)) (refW E ρ th rc ((N : Int)) pa kd nm st hi ke tx wy) := D_of_dR hρ rfl
  have hS : va_S (adIn (refW E ρ th rc ((N : Int)) pa kd nm st hi ke tx wy)) s.heap s.heap [] := va_S.rf
  refine lv_aload_n hx hb dX6_findError_0 rfl (lv_lk hl rfl) ?_
  refine iv_iconst hx hb dX6_findError_1 ?_
  refine va_put (ci := 6) (ty := .int) hx hb hts inX6 tyX6 tyX6_ok nmX6 hown hK.1 hP (dm hD rfl) hS 0 rfl rfl 8 (by decide) (hts _ fl_X6_137) (fun _ h9 => h9) rfl (by decide +kernel) rfl rfl (Nat.le_of_ble_eq_true rfl) dX6_findError_2 (fun H locs hP _ hS => ?_)
  have hP : va_P E.1 vwCl (refW E ρ th rc ((N : Int)) (((0 : Nat) : Int)) kd nm st hi ke tx wy) H := hP
  have LOOP5 : ∀ (n9 i : Nat) (kd1 nm1 : Int), (N - i ≤ n9) → (i ≤ N) → (pmF (N - i) tx i (-1) (-1) = pmF N tx 0 (-1) (-1)) → ∀ (H : Heap) (locs : List Loc) (ls : Array Slot), va_P E.1 vwCl (refW E ρ th rc ((N : Int)) ((i : Int)) kd1 nm1 st hi ke tx wy) H → va_S (adIn (refW E ρ th rc ((N : Int)) pa kd nm st hi ke tx wy)) s.heap H locs → lv_has ls 1 [(0, .ref (ρ 0))] → W p l e ({ frames := 4, cells := 0, slots := 0, locals := 87 }) s m args below meth c H locs 0 0 (MQ below (qX (some (.int (I (pmF N tx 0 (-1) (-1))))) E (refW E ρ th rc ((N : Int)) pa kd nm st hi ke tx wy) (fun (g : Int × Int × Int) => (refW E ρ th rc ((N : Int)) g.1 g.2.1 g.2.2 st hi ke tx wy))) args s 0 0 (adIn (refW E ρ th rc ((N : Int)) pa kd nm st hi ke tx wy))) (F0 m 5 ls []) := by
    intro n9
    induction n9 with
    | zero =>
      intro  i kd1 nm1 hn9 hi8 he9 H locs ls hP hS hl
      have hB0 := hB.1
      refine lv_aload_n hx hb dX6_findError_5 rfl (lv_lk hl rfl) ?_
      refine call_F (va_runV ⟨hx, hb, hml, hown, hts⟩ (m_X6_readsAct_none l E ρ th rc kd1 nm1 st hi ke tx wy hρ N i (by omega) hB (by omega)) (cwV 0 hts (gi_V ml_X6_153 im_X6_readsAct sl_X6_readsAct it_X6 cd_X6_readsAct) rfl rfl rfl (by decide +kernel) ⟨Nat.le_of_ble_eq_true rfl, Nat.le_of_ble_eq_true rfl⟩) (pR_V (q0 := 0) (ci := 6) hP hK rfl rfl) rfl rfl hl.1 rfl (lv_room (Nat.le_of_ble_eq_true rfl)) dX6_findError_6 ⟨Nat.le_of_ble_eq_true rfl, Nat.le_of_ble_eq_true rfl⟩) (dm hD rfl) hS rfl (fun H locs hP hS => ?_)
      have hP : va_P E.1 vwCl (refW E ρ th rc ((N : Int)) ((i : Int)) (if i < N then tx i else -1) nm1 st hi ke tx wy) H := hP
      refine iv_if_ne (tgt := 17) hx hb dX6_findError_9 (by decide) (by omega) (fun c_9 => by exfalso; omega) (fun c_9 => ?_)
      refine lv_aload_n hx hb dX6_findError_12 rfl (lv_lk hl rfl) ?_
      refine va_get (D := E.1) (ci := 6) hx hb hts inX6 hown hK.1 hP 0 rfl rfl 8 (by decide) (hts _ fl_X6_137) (fun _ h9 => h9) rfl dX6_findError_13 ?_
      refine iv_eq (pmF N tx 0 (-1) (-1)) (by rw [← he9, pm_bad0 (by omega) (by omega)]) ?_
      exact W.iret hx hb hrt (fun t ht hW => ⟨rfl, ⟨((i : Int), if i < N then tx i else -1, nm1), by rw [ht]; exact hP⟩, hS.F ht⟩) hS.2.2 dX6_findError_16 hlocks
    | succ n9 ih =>
      intro  i kd1 nm1 hn9 hi8 he9 H locs ls hP hS hl
      have hBi := hB.2 i
      have hBi1 := hB.2 (i + 1)
      have hB0 := hB.1
      by_cases h2 : i < N ∧ tx i = 43
      · by_cases h1 : i + 1 < N ∧ 48 + 1 ≤ tx (i + 1) ∧ tx (i + 1) ≤ 57
        · refine lv_aload_n hx hb dX6_findError_5 rfl (lv_lk hl rfl) ?_
          refine call_F (va_runV ⟨hx, hb, hml, hown, hts⟩ (m_X6_readsAct_ok43 l E ρ th rc kd1 nm1 st hi ke tx wy hρ N i (by omega) hB h2.1 h2.2 h1) (cwV 0 hts (gi_V ml_X6_153 im_X6_readsAct sl_X6_readsAct it_X6 cd_X6_readsAct) rfl rfl rfl (by decide +kernel) ⟨Nat.le_of_ble_eq_true rfl, Nat.le_of_ble_eq_true rfl⟩) (pR_V (q0 := 0) (ci := 6) hP hK rfl rfl) rfl rfl hl.1 rfl (lv_room (Nat.le_of_ble_eq_true rfl)) dX6_findError_6 ⟨Nat.le_of_ble_eq_true rfl, Nat.le_of_ble_eq_true rfl⟩) (dm hD rfl) hS rfl (fun H locs hP hS => ?_)
          have hP : va_P E.1 vwCl (refW E ρ th rc ((N : Int)) (((runN (N - (i + 1 + 1)) tx (i + 1 + 1) (tx (i + 1) - 48) 99).1 : Int)) 43 ((runN (N - (i + 1 + 1)) tx (i + 1 + 1) (tx (i + 1) - 48) 99).2) st hi ke tx wy) H := hP
          obtain ⟨R, hR⟩ : ∃ x, x = runN (N - (i + 2)) tx (i + 2) (tx (i + 1) - 48) 99 := ⟨_, rfl⟩
          have hP : va_P E.1 vwCl (refW E ρ th rc ((N : Int)) ((R.1 : Int)) 43 R.2 st hi ke tx wy) H := by rw [hR]; exact hP
          have hRl : i + 2 ≤ R.1 ∧ R.1 ≤ N := by have := run_le (N - (i + 2)) tx (i + 2) (tx (i + 1) - 48) 99; rw [← hR] at this; omega
          have hBR := hB.2 R.1
          refine iv_if_ne (tgt := 17) hx hb dX6_findError_9 (by decide) (by omega) (fun c_9 => ?_) (fun c_9 => by exfalso; omega)
          refine lv_aload_n hx hb dX6_findError_17 rfl (lv_lk hl rfl) ?_
          refine va_get (D := E.1) (ci := 6) hx hb hts inX6 hown hK.1 hP 0 rfl rfl 8 (by decide) (hts _ fl_X6_137) (fun _ h9 => h9) rfl dX6_findError_18 ?_
          refine lv_aload_n hx hb dX6_findError_21 rfl (lv_lk hl rfl) ?_
          refine va_get (D := E.1) (ci := 6) hx hb hts inX6 hown hK.1 hP 0 rfl rfl 6 (by decide) (hts _ fl_X6_134) (fun _ h9 => h9) rfl dX6_findError_22 ?_
          refine iv_icmp_ne (tgt := 30) hx hb dX6_findError_25 (by decide) (by omega) (by omega) (fun c_25 => ?_) (fun c_25 => ?_)
          · refine lv_aload_n hx hb dX6_findError_30 rfl (lv_lk hl rfl) ?_
            refine va_get (D := E.1) (ci := 6) hx hb hts inX6 hown hK.1 hP 0 rfl rfl 5 (by decide) (hts _ fl_X6_19) (fun _ h9 => h9) rfl dX6_findError_31 ?_
            refine lv_aload_n hx hb dX6_findError_34 rfl (lv_lk hl rfl) ?_
            refine va_get (D := E.1) (ci := 6) hx hb hts inX6 hown hK.1 hP 0 rfl rfl 8 (by decide) (hts _ fl_X6_137) (fun _ h9 => h9) rfl dX6_findError_35 ?_
            refine iv_iald hx hb hK hP 4 rfl (R.1) (by omega) (by omega) dX6_findError_38 ?_
            refine iv_bipush hx hb dX6_findError_39 (by decide +kernel) ?_
            refine iv_icmp_eq (tgt := 49) hx hb dX6_findError_41 (by decide) (by omega) (by omega) (fun c_41 => ?_) (fun c_41 => ?_)
            · refine lv_aload_n hx hb dX6_findError_49 rfl (lv_lk hl rfl) ?_
              refine lv_dup hx hb dX6_findError_50 rfl ?_
              refine va_get (D := E.1) (ci := 6) hx hb hts inX6 hown hK.1 hP 0 rfl rfl 8 (by decide) (hts _ fl_X6_137) (fun _ h9 => h9) rfl dX6_findError_51 ?_
              refine iv_iconst hx hb dX6_findError_54 ?_
              refine iv_iadd hx hb dX6_findError_55 ?_
              refine iv_eq (((R.1 + 1 : Nat) : Int)) (by omega) ?_
              refine va_put (ci := 6) (ty := .int) hx hb hts inX6 tyX6 tyX6_ok nmX6 hown hK.1 hP (dm hD rfl) hS 0 rfl rfl 8 (by decide) (hts _ fl_X6_137) (fun _ h9 => h9) rfl (by decide +kernel) rfl rfl (Nat.le_of_ble_eq_true rfl) dX6_findError_56 (fun H locs hP _ hS => ?_)
              have hP : va_P E.1 vwCl (refW E ρ th rc ((N : Int)) (((R.1 + 1 : Nat) : Int)) 43 R.2 st hi ke tx wy) H := hP
              refine lv_goto (tgt := 5) hx hb dX6_findError_59 (by decide) ?_
              exact ih (R.1 + 1) 43 R.2 (by omega) (by omega) (by rw [← he9, pm_act (sg := 43) (lo := 1) (hi := 99) (Or.inl ⟨rfl, rfl, rfl⟩) h1.1 h2.2 h1.2, ← hR, if_neg (by omega), if_pos c_41]) H locs ls hP hS (lv_sub hl [0] rfl)
            · refine lv_aload_n hx hb dX6_findError_44 rfl (lv_lk hl rfl) ?_
              refine va_get (D := E.1) (ci := 6) hx hb hts inX6 hown hK.1 hP 0 rfl rfl 8 (by decide) (hts _ fl_X6_137) (fun _ h9 => h9) rfl dX6_findError_45 ?_
              refine iv_eq (pmF N tx 0 (-1) (-1)) (by rw [← he9, pm_act (sg := 43) (lo := 1) (hi := 99) (Or.inl ⟨rfl, rfl, rfl⟩) h1.1 h2.2 h1.2, ← hR, if_neg (by omega), if_neg c_41]) ?_
              exact W.iret hx hb hrt (fun t ht hW => ⟨rfl, ⟨((R.1 : Int), 43, R.2), by rw [ht]; exact hP⟩, hS.F ht⟩) hS.2.2 dX6_findError_48 hlocks
          · refine iv_iconst hx hb dX6_findError_28 ?_
            refine iv_eq (pmF N tx 0 (-1) (-1)) (by rw [← he9, pm_act (sg := 43) (lo := 1) (hi := 99) (Or.inl ⟨rfl, rfl, rfl⟩) h1.1 h2.2 h1.2, ← hR, if_pos (by omega)]) ?_
            exact W.iret hx hb hrt (fun t ht hW => ⟨rfl, ⟨((R.1 : Int), 43, R.2), by rw [ht]; exact hP⟩, hS.F ht⟩) hS.2.2 dX6_findError_29 hlocks
        · refine lv_aload_n hx hb dX6_findError_5 rfl (lv_lk hl rfl) ?_
          refine call_F (va_runV ⟨hx, hb, hml, hown, hts⟩ (m_X6_readsAct_bad43 l E ρ th rc kd1 nm1 st hi ke tx wy hρ N i (by omega) hB h2.1 h2.2 h1) (cwV 0 hts (gi_V ml_X6_153 im_X6_readsAct sl_X6_readsAct it_X6 cd_X6_readsAct) rfl rfl rfl (by decide +kernel) ⟨Nat.le_of_ble_eq_true rfl, Nat.le_of_ble_eq_true rfl⟩) (pR_V (q0 := 0) (ci := 6) hP hK rfl rfl) rfl rfl hl.1 rfl (lv_room (Nat.le_of_ble_eq_true rfl)) dX6_findError_6 ⟨Nat.le_of_ble_eq_true rfl, Nat.le_of_ble_eq_true rfl⟩) (dm hD rfl) hS rfl (fun H locs hP hS => ?_)
          have hP : va_P E.1 vwCl (refW E ρ th rc ((N : Int)) (((i + 1 : Nat) : Int)) 43 nm1 st hi ke tx wy) H := hP
          refine iv_if_ne (tgt := 17) hx hb dX6_findError_9 (by decide) (by omega) (fun c_9 => by exfalso; omega) (fun c_9 => ?_)
          refine lv_aload_n hx hb dX6_findError_12 rfl (lv_lk hl rfl) ?_
          refine va_get (D := E.1) (ci := 6) hx hb hts inX6 hown hK.1 hP 0 rfl rfl 8 (by decide) (hts _ fl_X6_137) (fun _ h9 => h9) rfl dX6_findError_13 ?_
          refine iv_eq (pmF N tx 0 (-1) (-1)) (by rw [← he9, pm_bad1 (sg := 43) (lo := 1) (hi := 99) (Or.inl ⟨rfl, rfl, rfl⟩) h2.1 h2.2 h1]; omega) ?_
          exact W.iret hx hb hrt (fun t ht hW => ⟨rfl, ⟨(((i + 1 : Nat) : Int), 43, nm1), by rw [ht]; exact hP⟩, hS.F ht⟩) hS.2.2 dX6_findError_16 hlocks
      · by_cases h3 : i < N ∧ tx i = 63
        · by_cases h1 : i + 1 < N ∧ 48 + 0 ≤ tx (i + 1) ∧ tx (i + 1) ≤ 57
          · refine lv_aload_n hx hb dX6_findError_5 rfl (lv_lk hl rfl) ?_
            refine call_F (va_runV ⟨hx, hb, hml, hown, hts⟩ (m_X6_readsAct_ok63 l E ρ th rc kd1 nm1 st hi ke tx wy hρ N i (by omega) hB h3.1 h3.2 h1) (cwV 0 hts (gi_V ml_X6_153 im_X6_readsAct sl_X6_readsAct it_X6 cd_X6_readsAct) rfl rfl rfl (by decide +kernel) ⟨Nat.le_of_ble_eq_true rfl, Nat.le_of_ble_eq_true rfl⟩) (pR_V (q0 := 0) (ci := 6) hP hK rfl rfl) rfl rfl hl.1 rfl (lv_room (Nat.le_of_ble_eq_true rfl)) dX6_findError_6 ⟨Nat.le_of_ble_eq_true rfl, Nat.le_of_ble_eq_true rfl⟩) (dm hD rfl) hS rfl (fun H locs hP hS => ?_)
            have hP : va_P E.1 vwCl (refW E ρ th rc ((N : Int)) (((runN (N - (i + 1 + 1)) tx (i + 1 + 1) (tx (i + 1) - 48) 35).1 : Int)) 63 ((runN (N - (i + 1 + 1)) tx (i + 1 + 1) (tx (i + 1) - 48) 35).2) st hi ke tx wy) H := hP
            obtain ⟨R, hR⟩ : ∃ x, x = runN (N - (i + 2)) tx (i + 2) (tx (i + 1) - 48) 35 := ⟨_, rfl⟩
            have hP : va_P E.1 vwCl (refW E ρ th rc ((N : Int)) ((R.1 : Int)) 63 R.2 st hi ke tx wy) H := by rw [hR]; exact hP
            have hRl : i + 2 ≤ R.1 ∧ R.1 ≤ N := by have := run_le (N - (i + 2)) tx (i + 2) (tx (i + 1) - 48) 35; rw [← hR] at this; omega
            have hBR := hB.2 R.1
            refine iv_if_ne (tgt := 17) hx hb dX6_findError_9 (by decide) (by omega) (fun c_9 => ?_) (fun c_9 => by exfalso; omega)
            refine lv_aload_n hx hb dX6_findError_17 rfl (lv_lk hl rfl) ?_
            refine va_get (D := E.1) (ci := 6) hx hb hts inX6 hown hK.1 hP 0 rfl rfl 8 (by decide) (hts _ fl_X6_137) (fun _ h9 => h9) rfl dX6_findError_18 ?_
            refine lv_aload_n hx hb dX6_findError_21 rfl (lv_lk hl rfl) ?_
            refine va_get (D := E.1) (ci := 6) hx hb hts inX6 hown hK.1 hP 0 rfl rfl 6 (by decide) (hts _ fl_X6_134) (fun _ h9 => h9) rfl dX6_findError_22 ?_
            refine iv_icmp_ne (tgt := 30) hx hb dX6_findError_25 (by decide) (by omega) (by omega) (fun c_25 => ?_) (fun c_25 => ?_)
            · refine lv_aload_n hx hb dX6_findError_30 rfl (lv_lk hl rfl) ?_
              refine va_get (D := E.1) (ci := 6) hx hb hts inX6 hown hK.1 hP 0 rfl rfl 5 (by decide) (hts _ fl_X6_19) (fun _ h9 => h9) rfl dX6_findError_31 ?_
              refine lv_aload_n hx hb dX6_findError_34 rfl (lv_lk hl rfl) ?_
              refine va_get (D := E.1) (ci := 6) hx hb hts inX6 hown hK.1 hP 0 rfl rfl 8 (by decide) (hts _ fl_X6_137) (fun _ h9 => h9) rfl dX6_findError_35 ?_
              refine iv_iald hx hb hK hP 4 rfl (R.1) (by omega) (by omega) dX6_findError_38 ?_
              refine iv_bipush hx hb dX6_findError_39 (by decide +kernel) ?_
              refine iv_icmp_eq (tgt := 49) hx hb dX6_findError_41 (by decide) (by omega) (by omega) (fun c_41 => ?_) (fun c_41 => ?_)
              · refine lv_aload_n hx hb dX6_findError_49 rfl (lv_lk hl rfl) ?_
                refine lv_dup hx hb dX6_findError_50 rfl ?_
                refine va_get (D := E.1) (ci := 6) hx hb hts inX6 hown hK.1 hP 0 rfl rfl 8 (by decide) (hts _ fl_X6_137) (fun _ h9 => h9) rfl dX6_findError_51 ?_
                refine iv_iconst hx hb dX6_findError_54 ?_
                refine iv_iadd hx hb dX6_findError_55 ?_
                refine iv_eq (((R.1 + 1 : Nat) : Int)) (by omega) ?_
                refine va_put (ci := 6) (ty := .int) hx hb hts inX6 tyX6 tyX6_ok nmX6 hown hK.1 hP (dm hD rfl) hS 0 rfl rfl 8 (by decide) (hts _ fl_X6_137) (fun _ h9 => h9) rfl (by decide +kernel) rfl rfl (Nat.le_of_ble_eq_true rfl) dX6_findError_56 (fun H locs hP _ hS => ?_)
                have hP : va_P E.1 vwCl (refW E ρ th rc ((N : Int)) (((R.1 + 1 : Nat) : Int)) 63 R.2 st hi ke tx wy) H := hP
                refine lv_goto (tgt := 5) hx hb dX6_findError_59 (by decide) ?_
                exact ih (R.1 + 1) 63 R.2 (by omega) (by omega) (by rw [← he9, pm_act (sg := 63) (lo := 0) (hi := 35) (Or.inr ⟨rfl, rfl, rfl⟩) h1.1 h3.2 h1.2, ← hR, if_neg (by omega), if_pos c_41]) H locs ls hP hS (lv_sub hl [0] rfl)
              · refine lv_aload_n hx hb dX6_findError_44 rfl (lv_lk hl rfl) ?_
                refine va_get (D := E.1) (ci := 6) hx hb hts inX6 hown hK.1 hP 0 rfl rfl 8 (by decide) (hts _ fl_X6_137) (fun _ h9 => h9) rfl dX6_findError_45 ?_
                refine iv_eq (pmF N tx 0 (-1) (-1)) (by rw [← he9, pm_act (sg := 63) (lo := 0) (hi := 35) (Or.inr ⟨rfl, rfl, rfl⟩) h1.1 h3.2 h1.2, ← hR, if_neg (by omega), if_neg c_41]) ?_
                exact W.iret hx hb hrt (fun t ht hW => ⟨rfl, ⟨((R.1 : Int), 63, R.2), by rw [ht]; exact hP⟩, hS.F ht⟩) hS.2.2 dX6_findError_48 hlocks
            · refine iv_iconst hx hb dX6_findError_28 ?_
              refine iv_eq (pmF N tx 0 (-1) (-1)) (by rw [← he9, pm_act (sg := 63) (lo := 0) (hi := 35) (Or.inr ⟨rfl, rfl, rfl⟩) h1.1 h3.2 h1.2, ← hR, if_pos (by omega)]) ?_
              exact W.iret hx hb hrt (fun t ht hW => ⟨rfl, ⟨((R.1 : Int), 63, R.2), by rw [ht]; exact hP⟩, hS.F ht⟩) hS.2.2 dX6_findError_29 hlocks
          · refine lv_aload_n hx hb dX6_findError_5 rfl (lv_lk hl rfl) ?_
            refine call_F (va_runV ⟨hx, hb, hml, hown, hts⟩ (m_X6_readsAct_bad63 l E ρ th rc kd1 nm1 st hi ke tx wy hρ N i (by omega) hB h3.1 h3.2 h1) (cwV 0 hts (gi_V ml_X6_153 im_X6_readsAct sl_X6_readsAct it_X6 cd_X6_readsAct) rfl rfl rfl (by decide +kernel) ⟨Nat.le_of_ble_eq_true rfl, Nat.le_of_ble_eq_true rfl⟩) (pR_V (q0 := 0) (ci := 6) hP hK rfl rfl) rfl rfl hl.1 rfl (lv_room (Nat.le_of_ble_eq_true rfl)) dX6_findError_6 ⟨Nat.le_of_ble_eq_true rfl, Nat.le_of_ble_eq_true rfl⟩) (dm hD rfl) hS rfl (fun H locs hP hS => ?_)
            have hP : va_P E.1 vwCl (refW E ρ th rc ((N : Int)) (((i + 1 : Nat) : Int)) 63 nm1 st hi ke tx wy) H := hP
            refine iv_if_ne (tgt := 17) hx hb dX6_findError_9 (by decide) (by omega) (fun c_9 => by exfalso; omega) (fun c_9 => ?_)
            refine lv_aload_n hx hb dX6_findError_12 rfl (lv_lk hl rfl) ?_
            refine va_get (D := E.1) (ci := 6) hx hb hts inX6 hown hK.1 hP 0 rfl rfl 8 (by decide) (hts _ fl_X6_137) (fun _ h9 => h9) rfl dX6_findError_13 ?_
            refine iv_eq (pmF N tx 0 (-1) (-1)) (by rw [← he9, pm_bad1 (sg := 63) (lo := 0) (hi := 35) (Or.inr ⟨rfl, rfl, rfl⟩) h3.1 h3.2 h1]; omega) ?_
            exact W.iret hx hb hrt (fun t ht hW => ⟨rfl, ⟨(((i + 1 : Nat) : Int), 63, nm1), by rw [ht]; exact hP⟩, hS.F ht⟩) hS.2.2 dX6_findError_16 hlocks
        · refine lv_aload_n hx hb dX6_findError_5 rfl (lv_lk hl rfl) ?_
          refine call_F (va_runV ⟨hx, hb, hml, hown, hts⟩ (m_X6_readsAct_none l E ρ th rc kd1 nm1 st hi ke tx wy hρ N i (by omega) hB (by omega)) (cwV 0 hts (gi_V ml_X6_153 im_X6_readsAct sl_X6_readsAct it_X6 cd_X6_readsAct) rfl rfl rfl (by decide +kernel) ⟨Nat.le_of_ble_eq_true rfl, Nat.le_of_ble_eq_true rfl⟩) (pR_V (q0 := 0) (ci := 6) hP hK rfl rfl) rfl rfl hl.1 rfl (lv_room (Nat.le_of_ble_eq_true rfl)) dX6_findError_6 ⟨Nat.le_of_ble_eq_true rfl, Nat.le_of_ble_eq_true rfl⟩) (dm hD rfl) hS rfl (fun H locs hP hS => ?_)
          have hP : va_P E.1 vwCl (refW E ρ th rc ((N : Int)) ((i : Int)) (if i < N then tx i else -1) nm1 st hi ke tx wy) H := hP
          refine iv_if_ne (tgt := 17) hx hb dX6_findError_9 (by decide) (by omega) (fun c_9 => by exfalso; omega) (fun c_9 => ?_)
          refine lv_aload_n hx hb dX6_findError_12 rfl (lv_lk hl rfl) ?_
          refine va_get (D := E.1) (ci := 6) hx hb hts inX6 hown hK.1 hP 0 rfl rfl 8 (by decide) (hts _ fl_X6_137) (fun _ h9 => h9) rfl dX6_findError_13 ?_
          refine iv_eq (pmF N tx 0 (-1) (-1)) (by rw [← he9, pm_bad0 (by omega) (by omega)]) ?_
          exact W.iret hx hb hrt (fun t ht hW => ⟨rfl, ⟨((i : Int), if i < N then tx i else -1, nm1), by rw [ht]; exact hP⟩, hS.F ht⟩) hS.2.2 dX6_findError_16 hlocks
  exact LOOP5 N 0 kd nm (by omega) (by omega) rfl _ _ _ hP hS (lv_sub hl [0] rfl)
set_option maxHeartbeats 4000000 in
set_option maxRecDepth 100000 in
theorem m_X6_firstError (l : Launch) (E : Env3) (ρ : Nat → Nat) (th rc pa kd nm : Int) (st hi ke tx wy : S) (hρ : dR ρ 6) (N : Nat) (hB : txB N tx) : Met l yX6_firstError (Cond.code yX6_firstError cX6_firstError 1 (some .int) :: ALL) ({ frames := 5, cells := 0, slots := 0, locals := 107 }) (pR [.ref (ρ 0)] E (refW E ρ th rc ((N : Int)) pa kd nm st hi ke tx wy)) (qX (some (.int (I (pmF N tx 0 (-1) (-1))))) E (refW E ρ th rc ((N : Int)) pa kd nm st hi ke tx wy) (fun (g : Int × Int × Int) => (refW E ρ 0 rc ((N : Int)) g.1 g.2.1 g.2.2 st hi ke tx wy))) 0 0 (adIn (refW E ρ th rc ((N : Int)) pa kd nm st hi ke tx wy)) := by
  refine mk_met (by decide) rfl (Nat.le_of_ble_eq_true rfl) ?_
  intro p e s m args below meth c hx hb hrt hml hts hown hlocks hnm hP hK ls hl
  have hown : s.vm.findClass RX6 = some m.cls := hown
  have hl : lv_has ls 1 [(0, .ref (ρ 0))] := hl
  have hD : va_D (adIn (refW E ρ th rc ((N : Int)) pa kd nm st hi ke tx wy)) (refW E ρ th rc ((N : Int)) pa kd nm st hi ke tx wy) := D_of_dR hρ rfl
  have hS : va_S (adIn (refW E ρ th rc ((N : Int)) pa kd nm st hi ke tx wy)) s.heap s.heap [] := va_S.rf
  refine lv_aload_n hx hb dX6_firstError_0 rfl (lv_lk hl rfl) ?_
  refine iv_iconst hx hb dX6_firstError_1 ?_
  refine va_put (ci := 6) (ty := .int) hx hb hts inX6 tyX6 tyX6_ok nmX6 hown hK.1 hP (dm hD rfl) hS 0 rfl rfl 0 (by decide) (hts _ fl_X6_32) (fun _ h9 => h9) rfl (by decide +kernel) rfl rfl (Nat.le_of_ble_eq_true rfl) dX6_firstError_2 (fun H locs hP _ hS => ?_)
  have hP : va_P E.1 vwCl (refW E ρ 0 rc ((N : Int)) pa kd nm st hi ke tx wy) H := hP
  refine lv_aload_n hx hb dX6_firstError_5 rfl (lv_lk hl rfl) ?_
  refine call_X (va_runV ⟨hx, hb, hml, hown, hts⟩ (m_X6_findError l E ρ 0 rc pa kd nm st hi ke tx wy hρ N hB ) (cwV 0 hts (gi_V ml_X6_157 im_X6_findError sl_X6_findError it_X6 cd_X6_findError) rfl rfl rfl (by decide +kernel) ⟨Nat.le_of_ble_eq_true rfl, Nat.le_of_ble_eq_true rfl⟩) (pR_V (q0 := 0) (ci := 6) hP hK rfl rfl) rfl rfl hl.1 rfl (lv_room (Nat.le_of_ble_eq_true rfl)) dX6_firstError_6 ⟨Nat.le_of_ble_eq_true rfl, Nat.le_of_ble_eq_true rfl⟩) (dm hD rfl) hS rfl (fun g1 H locs hP hS => ?_)
  have hP : va_P E.1 vwCl (refW E ρ 0 rc ((N : Int)) g1.1 g1.2.1 g1.2.2 st hi ke tx wy) H := hP
  exact W.iret hx hb hrt (fun t ht hW => ⟨rfl, ⟨(g1.1, g1.2.1, g1.2.2), by rw [ht]; exact hP⟩, hS.F ht⟩) hS.2.2 dX6_firstError_9 hlocks
set_option maxHeartbeats 4000000 in
set_option maxRecDepth 100000 in
theorem m_X6_happens_solve (l : Launch) (E : Env3) (ρ : Nat → Nat) (th rc tl pa  : Int) (st hi ke tx wy : S) (hρ : dR ρ 6) (T : Int) (hI : IB T st) (r : Nat) (hr : r < 36) : Met l yX6_happens (Cond.code yX6_happens cX6_happens 2 (some .boolean) :: ALL) ({ frames := 6, cells := 0, slots := 0, locals := 135 }) (pR [.ref (ρ 0)] E (refW E ρ th rc tl pa 63 ((r : Int)) st hi ke tx wy)) (qX (some (.int (I 1))) E (refW E ρ th rc tl pa 63 ((r : Int)) st hi ke tx wy) (fun wy => (refW E ρ th rc tl pa 63 ((r : Int)) ((solve1 st r).1) hi ke tx wy))) 0 0 (adIn (refW E ρ th rc tl pa 63 ((r : Int)) st hi ke tx wy)) := by
  refine mk_met (by decide) rfl (Nat.le_of_ble_eq_true rfl) ?_
  intro p e s m args below meth c hx hb hrt hml hts hown hlocks hnm hP hK ls hl
  have hown : s.vm.findClass RX6 = some m.cls := hown
  have hl : lv_has ls 2 [(0, .ref (ρ 0))] := hl
  have hD : va_D (adIn (refW E ρ th rc tl pa 63 ((r : Int)) st hi ke tx wy)) (refW E ρ th rc tl pa 63 ((r : Int)) st hi ke tx wy) := D_of_dR hρ rfl
  have hS : va_S (adIn (refW E ρ th rc tl pa 63 ((r : Int)) st hi ke tx wy)) s.heap s.heap [] := va_S.rf
  refine lv_aload_n hx hb dX6_happens_0 rfl (lv_lk hl rfl) ?_
  refine va_get (D := E.1) (ci := 6) hx hb hts inX6 hown hK.1 hP 0 rfl rfl 9 (by decide) (hts _ fl_X6_147) (fun _ h9 => h9) rfl dX6_happens_1 ?_
  refine iv_bipush hx hb dX6_happens_4 (by decide +kernel) ?_
  refine iv_icmp_ne (tgt := 20) hx hb dX6_happens_6 (by decide) (by omega) (by omega) (fun c_6 => by exfalso; omega) (fun c_6 => ?_)
  refine lv_aload_n hx hb dX6_happens_9 rfl (lv_lk hl rfl) ?_
  refine lv_aload_n hx hb dX6_happens_10 rfl (lv_lk hl rfl) ?_
  refine va_get (D := E.1) (ci := 6) hx hb hts inX6 hown hK.1 hP 0 rfl rfl 10 (by decide) (hts _ fl_X6_144) (fun _ h9 => h9) rfl dX6_happens_11 ?_
  refine call_X (va_runV ⟨hx, hb, hml, hown, hts⟩ (m_X6_solvesFirst l E ρ th rc tl pa 63 ((r : Int)) st hi ke tx wy hρ T hI r hr) (cwV 1 hts (gi_V ml_X6_85 im_X6_solvesFirst sl_X6_solvesFirst it_X6 cd_X6_solvesFirst) rfl rfl rfl (by decide +kernel) ⟨Nat.le_of_ble_eq_true rfl, Nat.le_of_ble_eq_true rfl⟩) (pR_V (q0 := 0) (ci := 6) hP hK rfl rfl) rfl rfl hl.1 rfl (lv_room (Nat.le_of_ble_eq_true rfl)) dX6_happens_14 ⟨Nat.le_of_ble_eq_true rfl, Nat.le_of_ble_eq_true rfl⟩) (dm hD rfl) hS rfl (fun wy1 H locs hP hS => ?_)
  have hP : va_P E.1 vwCl (refW E ρ th rc tl pa 63 ((r : Int)) ((solve1 st r).1) hi ke tx wy1) H := hP
  refine lv_pop hx hb dX6_happens_17 rfl ?_
  refine iv_iconst hx hb dX6_happens_18 ?_
  exact W.zret (ty := .boolean) hx hb hrt (by rfl) (fun t ht hW => ⟨rfl, ⟨wy1, by rw [ht]; exact hP⟩, hS.F ht⟩) hS.2.2 dX6_happens_19 hlocks
set_option maxHeartbeats 4000000 in
set_option maxRecDepth 100000 in
theorem m_X6_happens_pass (l : Launch) (E : Env3) (ρ : Nat → Nat) (th rc tl pa  : Int) (st hi ke tx wy : S) (hρ : dR ρ 6) (T : Int) (hI : IB T st) (v : Int) (hv : 1 ≤ v ∧ v ≤ 99) (hT : T ≤ 99900) (h9 : st 0 + v ≤ 9999) : Met l yX6_happens (Cond.code yX6_happens cX6_happens 2 (some .boolean) :: ALL) ({ frames := 6, cells := 0, slots := 0, locals := 135 }) (pR [.ref (ρ 0)] E (refW E ρ th rc tl pa 43 v st hi ke tx wy)) (qW (some (.int (I 1))) E (refW E ρ th rc tl pa 43 v st hi ke tx wy) (refW E ρ th rc tl pa 43 v (passes st v) hi ke tx wy)) 0 0 (adIn (refW E ρ th rc tl pa 43 v st hi ke tx wy)) := by
  refine mk_met (by decide) rfl (Nat.le_of_ble_eq_true rfl) ?_
  intro p e s m args below meth c hx hb hrt hml hts hown hlocks hnm hP hK ls hl
  have hown : s.vm.findClass RX6 = some m.cls := hown
  have hl : lv_has ls 2 [(0, .ref (ρ 0))] := hl
  have hD : va_D (adIn (refW E ρ th rc tl pa 43 v st hi ke tx wy)) (refW E ρ th rc tl pa 43 v st hi ke tx wy) := D_of_dR hρ rfl
  have hS : va_S (adIn (refW E ρ th rc tl pa 43 v st hi ke tx wy)) s.heap s.heap [] := va_S.rf
  have h09 := hI.1
  refine lv_aload_n hx hb dX6_happens_0 rfl (lv_lk hl rfl) ?_
  refine va_get (D := E.1) (ci := 6) hx hb hts inX6 hown hK.1 hP 0 rfl rfl 9 (by decide) (hts _ fl_X6_147) (fun _ h9 => h9) rfl dX6_happens_1 ?_
  refine iv_bipush hx hb dX6_happens_4 (by decide +kernel) ?_
  refine iv_icmp_ne (tgt := 20) hx hb dX6_happens_6 (by decide) (by omega) (by omega) (fun c_6 => ?_) (fun c_6 => by exfalso; omega)
  refine lv_aload_n hx hb dX6_happens_20 rfl (lv_lk hl rfl) ?_
  refine va_get (D := E.1) (ci := 6) hx hb hts inX6 hown hK.1 hP 0 rfl rfl 1 (by decide) (hts _ fl_X6_7) (fun _ h9 => h9) rfl dX6_happens_21 ?_
  refine iv_iconst hx hb dX6_happens_24 ?_
  refine iv_iald hx hb hK hP 1 rfl (0) (by omega) (by omega) dX6_happens_25 ?_
  refine lv_aload_n hx hb dX6_happens_26 rfl (lv_lk hl rfl) ?_
  refine va_get (D := E.1) (ci := 6) hx hb hts inX6 hown hK.1 hP 0 rfl rfl 10 (by decide) (hts _ fl_X6_144) (fun _ h9 => h9) rfl dX6_happens_27 ?_
  refine iv_iadd hx hb dX6_happens_30 ?_
  refine iv_sipush hx hb dX6_happens_31 (by decide +kernel) ?_
  refine iv_icmp_gt (tgt := 41) hx hb dX6_happens_34 (by decide) (by omega) (by omega) (fun c_34 => by exfalso; omega) (fun c_34 => ?_)
  refine iv_iconst hx hb dX6_happens_37 ?_
  refine lv_goto (tgt := 42) hx hb dX6_happens_38 (by decide) ?_
  refine lv_istore_n (lv' := [(1, .int (I _)), (0, .ref _)]) hx hb dX6_happens_42 rfl hl (by decide) rfl (fun ls hl => ?_)
  refine lv_iload_n hx hb dX6_happens_43 rfl (lv_lk hl rfl) ?_
  refine iv_if_eq (tgt := 56) hx hb dX6_happens_44 (by decide) (by omega) (fun c_44 => by exfalso; omega) (fun c_44 => ?_)
  refine lv_aload_n hx hb dX6_happens_47 rfl (lv_lk hl rfl) ?_
  refine lv_aload_n hx hb dX6_happens_48 rfl (lv_lk hl rfl) ?_
  refine va_get (D := E.1) (ci := 6) hx hb hts inX6 hown hK.1 hP 0 rfl rfl 10 (by decide) (hts _ fl_X6_144) (fun _ h9 => h9) rfl dX6_happens_49 ?_
  refine call_F (va_runV ⟨hx, hb, hml, hown, hts⟩ (m_X6_passes l E ρ th rc tl pa 43 v st hi ke tx wy hρ T hI v (by omega)) (cwV 1 hts (gi_V ml_X6_91 im_X6_passes sl_X6_passes it_X6 cd_X6_passes) rfl rfl rfl (by decide +kernel) ⟨Nat.le_of_ble_eq_true rfl, Nat.le_of_ble_eq_true rfl⟩) (pR_V (q0 := 0) (ci := 6) hP hK rfl rfl) rfl rfl hl.1 rfl (lv_room (Nat.le_of_ble_eq_true rfl)) dX6_happens_52 ⟨Nat.le_of_ble_eq_true rfl, Nat.le_of_ble_eq_true rfl⟩) (dm hD rfl) hS rfl (fun H locs hP hS => ?_)
  have hP : va_P E.1 vwCl (refW E ρ th rc tl pa 43 v (passes st v) hi ke tx wy) H := hP
  refine lv_pop hx hb dX6_happens_55 rfl ?_
  refine lv_iload_n hx hb dX6_happens_56 rfl (lv_lk hl rfl) ?_
  exact W.zret (ty := .boolean) hx hb hrt (by rfl) (fun t ht hW => ⟨rfl, by rw [ht]; exact hP, hS.F ht⟩) hS.2.2 dX6_happens_57 hlocks
set_option maxHeartbeats 4000000 in
set_option maxRecDepth 100000 in
theorem m_X6_happens_no (l : Launch) (E : Env3) (ρ : Nat → Nat) (th rc tl pa  : Int) (st hi ke tx wy : S) (hρ : dR ρ 6) (T : Int) (hI : IB T st) (v : Int) (hv : 1 ≤ v ∧ v ≤ 99) (hT : T ≤ 99900) (h9 : ¬ st 0 + v ≤ 9999) : Met l yX6_happens (Cond.code yX6_happens cX6_happens 2 (some .boolean) :: ALL) ({ frames := 6, cells := 0, slots := 0, locals := 135 }) (pR [.ref (ρ 0)] E (refW E ρ th rc tl pa 43 v st hi ke tx wy)) (qW (some (.int (I 0))) E (refW E ρ th rc tl pa 43 v st hi ke tx wy) (refW E ρ th rc tl pa 43 v st hi ke tx wy)) 0 0 (adIn (refW E ρ th rc tl pa 43 v st hi ke tx wy)) := by
  refine mk_met (by decide) rfl (Nat.le_of_ble_eq_true rfl) ?_
  intro p e s m args below meth c hx hb hrt hml hts hown hlocks hnm hP hK ls hl
  have hown : s.vm.findClass RX6 = some m.cls := hown
  have hl : lv_has ls 2 [(0, .ref (ρ 0))] := hl
  have hD : va_D (adIn (refW E ρ th rc tl pa 43 v st hi ke tx wy)) (refW E ρ th rc tl pa 43 v st hi ke tx wy) := D_of_dR hρ rfl
  have hS : va_S (adIn (refW E ρ th rc tl pa 43 v st hi ke tx wy)) s.heap s.heap [] := va_S.rf
  have h09 := hI.1
  refine lv_aload_n hx hb dX6_happens_0 rfl (lv_lk hl rfl) ?_
  refine va_get (D := E.1) (ci := 6) hx hb hts inX6 hown hK.1 hP 0 rfl rfl 9 (by decide) (hts _ fl_X6_147) (fun _ h9 => h9) rfl dX6_happens_1 ?_
  refine iv_bipush hx hb dX6_happens_4 (by decide +kernel) ?_
  refine iv_icmp_ne (tgt := 20) hx hb dX6_happens_6 (by decide) (by omega) (by omega) (fun c_6 => ?_) (fun c_6 => by exfalso; omega)
  refine lv_aload_n hx hb dX6_happens_20 rfl (lv_lk hl rfl) ?_
  refine va_get (D := E.1) (ci := 6) hx hb hts inX6 hown hK.1 hP 0 rfl rfl 1 (by decide) (hts _ fl_X6_7) (fun _ h9 => h9) rfl dX6_happens_21 ?_
  refine iv_iconst hx hb dX6_happens_24 ?_
  refine iv_iald hx hb hK hP 1 rfl (0) (by omega) (by omega) dX6_happens_25 ?_
  refine lv_aload_n hx hb dX6_happens_26 rfl (lv_lk hl rfl) ?_
  refine va_get (D := E.1) (ci := 6) hx hb hts inX6 hown hK.1 hP 0 rfl rfl 10 (by decide) (hts _ fl_X6_144) (fun _ h9 => h9) rfl dX6_happens_27 ?_
  refine iv_iadd hx hb dX6_happens_30 ?_
  refine iv_sipush hx hb dX6_happens_31 (by decide +kernel) ?_
  refine iv_icmp_gt (tgt := 41) hx hb dX6_happens_34 (by decide) (by omega) (by omega) (fun c_34 => ?_) (fun c_34 => by exfalso; omega)
  refine iv_iconst hx hb dX6_happens_41 ?_
  refine lv_istore_n (lv' := [(1, .int (I _)), (0, .ref _)]) hx hb dX6_happens_42 rfl hl (by decide) rfl (fun ls hl => ?_)
  refine lv_iload_n hx hb dX6_happens_43 rfl (lv_lk hl rfl) ?_
  refine iv_if_eq (tgt := 56) hx hb dX6_happens_44 (by decide) (by omega) (fun c_44 => ?_) (fun c_44 => by exfalso; omega)
  refine lv_iload_n hx hb dX6_happens_56 rfl (lv_lk hl rfl) ?_
  exact W.zret (ty := .boolean) hx hb hrt (by rfl) (fun t ht hW => ⟨rfl, by rw [ht]; exact hP, hS.F ht⟩) hS.2.2 dX6_happens_57 hlocks
set_option maxHeartbeats 4000000 in
set_option maxRecDepth 100000 in
theorem m_X6_runActs_ok (l : Launch) (E : Env3) (ρ : Nat → Nat) (th pa kd nm : Int) (st hi ke tx wy : S) (hρ : dR ρ 6) (N : Nat) (hB : txB N tx) (n : Nat) (hn : n ≤ 6) (hI : IB 9999 st) (hp0 : pmF N tx 0 (-1) (-1) = -1) : Met l yX6_runActs (Cond.code yX6_runActs cX6_runActs 3 (some .int) :: ALL) ({ frames := 7, cells := 0, slots := 0, locals := 156 }) (pR [.ref (ρ 0)] E (refW E ρ th ((n : Int)) ((N : Int)) pa kd nm st hi ke tx wy)) (qX (some (.int (I (runA (acF N tx 0 (-1) (-1)) st).2))) E (refW E ρ th ((n : Int)) ((N : Int)) pa kd nm st hi ke tx wy) (fun (g : Int × Int × Int × S) => (refW E ρ 0 ((recN n : Int)) 0 g.1 g.2.1 g.2.2.1 ((runA (acF N tx 0 (-1) (-1)) st).1) (recH st hi n) ke tx g.2.2.2))) 0 0 (adIn (refW E ρ th ((n : Int)) ((N : Int)) pa kd nm st hi ke tx wy)) := by
  refine mk_met (by decide) rfl (Nat.le_of_ble_eq_true rfl) ?_
  intro p e s m args below meth c hx hb hrt hml hts hown hlocks hnm hP hK ls hl
  have hown : s.vm.findClass RX6 = some m.cls := hown
  have hl : lv_has ls 3 [(0, .ref (ρ 0))] := hl
  have hD : va_D (adIn (refW E ρ th ((n : Int)) ((N : Int)) pa kd nm st hi ke tx wy)) (refW E ρ th ((n : Int)) ((N : Int)) pa kd nm st hi ke tx wy) := D_of_dR hρ rfl
  have hS : va_S (adIn (refW E ρ th ((n : Int)) ((N : Int)) pa kd nm st hi ke tx wy)) s.heap s.heap [] := va_S.rf
  have hB9 := hB.1
  have hN0 : 0 < N := by rcases Nat.eq_zero_or_pos N with h | h; (· subst h; rw [pmF, if_pos rfl] at hp0; exact absurd hp0 (by decide)); (· exact h)
  refine lv_aload_n hx hb dX6_runActs_0 rfl (lv_lk hl rfl) ?_
  refine lv_aload_n hx hb dX6_runActs_1 rfl (lv_lk hl rfl) ?_
  refine call_X (va_runV ⟨hx, hb, hml, hown, hts⟩ (m_X6_findError l E ρ th ((n : Int)) pa kd nm st hi ke tx wy hρ N hB ) (cwV 0 hts (gi_V ml_X6_157 im_X6_findError sl_X6_findError it_X6 cd_X6_findError) rfl rfl rfl (by decide +kernel) ⟨Nat.le_of_ble_eq_true rfl, Nat.le_of_ble_eq_true rfl⟩) (pR_V (q0 := 0) (ci := 6) hP hK rfl rfl) rfl rfl hl.1 rfl (lv_room (Nat.le_of_ble_eq_true rfl)) dX6_runActs_2 ⟨Nat.le_of_ble_eq_true rfl, Nat.le_of_ble_eq_true rfl⟩) (dm hD rfl) hS rfl (fun g1 H locs hP hS => ?_)
  have hP : va_P E.1 vwCl (refW E ρ th ((n : Int)) ((N : Int)) g1.1 g1.2.1 g1.2.2 st hi ke tx wy) H := hP
  refine iv_iconst hx hb dX6_runActs_5 ?_
  refine iv_icmp_ne (tgt := 13) hx hb dX6_runActs_6 (by decide) (by omega) (by omega) (fun c_6 => by exfalso; omega) (fun c_6 => ?_)
  refine iv_iconst hx hb dX6_runActs_9 ?_
  refine lv_goto (tgt := 14) hx hb dX6_runActs_10 (by decide) ?_
  refine va_put (ci := 6) (ty := .int) hx hb hts inX6 tyX6 tyX6_ok nmX6 hown hK.1 hP (dm hD rfl) hS 0 rfl rfl 0 (by decide) (hts _ fl_X6_32) (fun _ h9 => h9) rfl (by decide +kernel) rfl rfl (Nat.le_of_ble_eq_true rfl) dX6_runActs_14 (fun H locs hP _ hS => ?_)
  have hP : va_P E.1 vwCl (refW E ρ 0 ((n : Int)) ((N : Int)) g1.1 g1.2.1 g1.2.2 st hi ke tx wy) H := hP
  refine lv_aload_n hx hb dX6_runActs_17 rfl (lv_lk hl rfl) ?_
  refine va_get (D := E.1) (ci := 6) hx hb hts inX6 hown hK.1 hP 0 rfl rfl 0 (by decide) (hts _ fl_X6_32) (fun _ h9 => h9) rfl dX6_runActs_18 ?_
  refine iv_if_le (tgt := 26) hx hb dX6_runActs_21 (by decide) (by omega) (fun c_21 => ?_) (fun c_21 => by exfalso; omega)
  refine lv_aload_n hx hb dX6_runActs_26 rfl (lv_lk hl rfl) ?_
  refine call_F (va_runV ⟨hx, hb, hml, hown, hts⟩ (m_X6_record l E ρ 0 ((N : Int)) g1.1 g1.2.1 g1.2.2 st hi ke tx wy hρ n hn) (cwV 0 hts (gi_V ml_X6_47 im_X6_record sl_X6_record it_X6 cd_X6_record) rfl rfl rfl (by decide +kernel) ⟨Nat.le_of_ble_eq_true rfl, Nat.le_of_ble_eq_true rfl⟩) (pR_V (q0 := 0) (ci := 6) hP hK rfl rfl) rfl rfl hl.1 rfl (lv_room (Nat.le_of_ble_eq_true rfl)) dX6_runActs_27 ⟨Nat.le_of_ble_eq_true rfl, Nat.le_of_ble_eq_true rfl⟩) (dm hD rfl) hS rfl (fun H locs hP hS => ?_)
  have hP : va_P E.1 vwCl (refW E ρ 0 ((recN n : Int)) ((N : Int)) g1.1 g1.2.1 g1.2.2 st (recH st hi n) ke tx wy) H := hP
  refine iv_iconst hx hb dX6_runActs_30 ?_
  refine lv_istore_n (lv' := [(1, .int (I _)), (0, .ref _)]) hx hb dX6_runActs_31 rfl hl (by decide) rfl (fun ls hl => ?_)
  refine lv_aload_n hx hb dX6_runActs_32 rfl (lv_lk hl rfl) ?_
  refine iv_iconst hx hb dX6_runActs_33 ?_
  refine va_put (ci := 6) (ty := .int) hx hb hts inX6 tyX6 tyX6_ok nmX6 hown hK.1 hP (dm hD rfl) hS 0 rfl rfl 8 (by decide) (hts _ fl_X6_137) (fun _ h9 => h9) rfl (by decide +kernel) rfl rfl (Nat.le_of_ble_eq_true rfl) dX6_runActs_34 (fun H locs hP _ hS => ?_)
  have hP : va_P E.1 vwCl (refW E ρ 0 ((recN n : Int)) ((N : Int)) (((0 : Nat) : Int)) g1.2.1 g1.2.2 st (recH st hi n) ke tx wy) H := hP
  refine iv_iconst hx hb dX6_runActs_37 ?_
  refine lv_istore_n (lv' := [(2, .int (I _)), (1, .int (I _)), (0, .ref _)]) hx hb dX6_runActs_38 rfl hl (by decide) rfl (fun ls hl => ?_)
  have LOOP39 : ∀ (n9 i : Nat) (L : List (Int × Int)) (s1 wy1 : S) (c9 kd1 nm1 : Int), (N + 1 ≤ i + n9) → ((L = [] ∧ N ≤ i ∧ i ≤ N + 1) ∨ (i < N ∧ pmF (N - i) tx i (-1) (-1) = -1 ∧ acF (N - i) tx i (-1) (-1) = L)) → (IB 9999 s1) → (c9 + (runA L s1).2 = (runA (acF N tx 0 (-1) (-1)) st).2) → ((runA L s1).1 = (runA (acF N tx 0 (-1) (-1)) st).1) → ∀ (H : Heap) (locs : List Loc) (ls : Array Slot), va_P E.1 vwCl (refW E ρ 0 ((recN n : Int)) ((N : Int)) ((i : Int)) kd1 nm1 s1 (recH st hi n) ke tx wy1) H → va_S (adIn (refW E ρ th ((n : Int)) ((N : Int)) pa kd nm st hi ke tx wy)) s.heap H locs → lv_has ls 3 [(0, .ref (ρ 0)), (1, .int (I c9)), (2, .int (I 1))] → W p l e ({ frames := 7, cells := 0, slots := 0, locals := 156 }) s m args below meth c H locs 0 0 (MQ below (qX (some (.int (I (runA (acF N tx 0 (-1) (-1)) st).2))) E (refW E ρ th ((n : Int)) ((N : Int)) pa kd nm st hi ke tx wy) (fun (g : Int × Int × Int × S) => (refW E ρ 0 ((recN n : Int)) 0 g.1 g.2.1 g.2.2.1 ((runA (acF N tx 0 (-1) (-1)) st).1) (recH st hi n) ke tx g.2.2.2))) args s 0 0 (adIn (refW E ρ th ((n : Int)) ((N : Int)) pa kd nm st hi ke tx wy))) (F0 m 39 ls []) := by
    intro n9
    induction n9 with
    | zero =>
      intro  i L s1 wy1 c9 kd1 nm1 hn9 hcase hI1 he9 he8 H locs ls hP hS hl
      have hB0 := hB.1
      obtain ⟨rfl, hi1, hi2⟩ : L = [] ∧ N ≤ i ∧ i ≤ N + 1 := by rcases hcase with h | h; (· exact h); (· exact absurd h.1 (by omega))
      refine lv_iload_n hx hb dX6_runActs_39 rfl (lv_lk hl rfl) ?_
      refine iv_if_eq (tgt := 89) hx hb dX6_runActs_40 (by decide) (by omega) (fun c_40 => by exfalso; omega) (fun c_40 => ?_)
      refine lv_aload_n hx hb dX6_runActs_43 rfl (lv_lk hl rfl) ?_
      refine va_get (D := E.1) (ci := 6) hx hb hts inX6 hown hK.1 hP 0 rfl rfl 8 (by decide) (hts _ fl_X6_137) (fun _ h9 => h9) rfl dX6_runActs_44 ?_
      refine lv_aload_n hx hb dX6_runActs_47 rfl (lv_lk hl rfl) ?_
      refine va_get (D := E.1) (ci := 6) hx hb hts inX6 hown hK.1 hP 0 rfl rfl 6 (by decide) (hts _ fl_X6_134) (fun _ h9 => h9) rfl dX6_runActs_48 ?_
      refine iv_icmp_ge (tgt := 89) hx hb dX6_runActs_51 (by decide) (by omega) (by omega) (fun c_51 => ?_) (fun c_51 => by exfalso; omega)
      refine lv_aload_n hx hb dX6_runActs_89 rfl (lv_lk hl rfl) ?_
      refine iv_iconst hx hb dX6_runActs_90 ?_
      refine va_put (ci := 6) (ty := .int) hx hb hts inX6 tyX6 tyX6_ok nmX6 hown hK.1 hP (dm hD rfl) hS 0 rfl rfl 6 (by decide) (hts _ fl_X6_134) (fun _ h9 => h9) rfl (by decide +kernel) rfl rfl (Nat.le_of_ble_eq_true rfl) dX6_runActs_91 (fun H locs hP _ hS => ?_)
      have hP : va_P E.1 vwCl (refW E ρ 0 ((recN n : Int)) 0 ((i : Int)) kd1 nm1 s1 (recH st hi n) ke tx wy1) H := hP
      refine lv_iload_n hx hb dX6_runActs_94 rfl (lv_lk hl rfl) ?_
      refine iv_eq ((runA (acF N tx 0 (-1) (-1)) st).2) (by rw [← he9]; exact (Int.add_zero _).symm) ?_
      exact W.iret hx hb hrt (fun t ht hW => ⟨rfl, ⟨((i : Int), kd1, nm1, wy1), by rw [ht]; exact (by rw [← he8]; exact hP)⟩, hS.F ht⟩) hS.2.2 dX6_runActs_95 hlocks
    | succ n9 ih =>
      intro  i L s1 wy1 c9 kd1 nm1 hn9 hcase hI1 he9 he8 H locs ls hP hS hl
      have hB0 := hB.1
      have h09 := hI1.1
      rcases hcase with ⟨rfl, hi1, hi2⟩ | ⟨hi1, hp1, ha1⟩
      · refine lv_iload_n hx hb dX6_runActs_39 rfl (lv_lk hl rfl) ?_
        refine iv_if_eq (tgt := 89) hx hb dX6_runActs_40 (by decide) (by omega) (fun c_40 => by exfalso; omega) (fun c_40 => ?_)
        refine lv_aload_n hx hb dX6_runActs_43 rfl (lv_lk hl rfl) ?_
        refine va_get (D := E.1) (ci := 6) hx hb hts inX6 hown hK.1 hP 0 rfl rfl 8 (by decide) (hts _ fl_X6_137) (fun _ h9 => h9) rfl dX6_runActs_44 ?_
        refine lv_aload_n hx hb dX6_runActs_47 rfl (lv_lk hl rfl) ?_
        refine va_get (D := E.1) (ci := 6) hx hb hts inX6 hown hK.1 hP 0 rfl rfl 6 (by decide) (hts _ fl_X6_134) (fun _ h9 => h9) rfl dX6_runActs_48 ?_
        refine iv_icmp_ge (tgt := 89) hx hb dX6_runActs_51 (by decide) (by omega) (by omega) (fun c_51 => ?_) (fun c_51 => by exfalso; omega)
        refine lv_aload_n hx hb dX6_runActs_89 rfl (lv_lk hl rfl) ?_
        refine iv_iconst hx hb dX6_runActs_90 ?_
        refine va_put (ci := 6) (ty := .int) hx hb hts inX6 tyX6 tyX6_ok nmX6 hown hK.1 hP (dm hD rfl) hS 0 rfl rfl 6 (by decide) (hts _ fl_X6_134) (fun _ h9 => h9) rfl (by decide +kernel) rfl rfl (Nat.le_of_ble_eq_true rfl) dX6_runActs_91 (fun H locs hP _ hS => ?_)
        have hP : va_P E.1 vwCl (refW E ρ 0 ((recN n : Int)) 0 ((i : Int)) kd1 nm1 s1 (recH st hi n) ke tx wy1) H := hP
        refine lv_iload_n hx hb dX6_runActs_94 rfl (lv_lk hl rfl) ?_
        refine iv_eq ((runA (acF N tx 0 (-1) (-1)) st).2) (by rw [← he9]; exact (Int.add_zero _).symm) ?_
        exact W.iret hx hb hrt (fun t ht hW => ⟨rfl, ⟨((i : Int), kd1, nm1, wy1), by rw [ht]; exact (by rw [← he8]; exact hP)⟩, hS.F ht⟩) hS.2.2 dX6_runActs_95 hlocks
      · refine lv_iload_n hx hb dX6_runActs_39 rfl (lv_lk hl rfl) ?_
        refine iv_if_eq (tgt := 89) hx hb dX6_runActs_40 (by decide) (by omega) (fun c_40 => by exfalso; omega) (fun c_40 => ?_)
        refine lv_aload_n hx hb dX6_runActs_43 rfl (lv_lk hl rfl) ?_
        refine va_get (D := E.1) (ci := 6) hx hb hts inX6 hown hK.1 hP 0 rfl rfl 8 (by decide) (hts _ fl_X6_137) (fun _ h9 => h9) rfl dX6_runActs_44 ?_
        refine lv_aload_n hx hb dX6_runActs_47 rfl (lv_lk hl rfl) ?_
        refine va_get (D := E.1) (ci := 6) hx hb hts inX6 hown hK.1 hP 0 rfl rfl 6 (by decide) (hts _ fl_X6_134) (fun _ h9 => h9) rfl dX6_runActs_48 ?_
        refine iv_icmp_ge (tgt := 89) hx hb dX6_runActs_51 (by decide) (by omega) (by omega) (fun c_51 => by exfalso; omega) (fun c_51 => ?_)
        obtain ⟨sg, lo, hi9, R, L', hs, htx, hd1, hd2, hd3, hR, hR1, hR2, hR3, hR4, hac, hnx⟩ := act_at hi1 hp1
        have hLe : L = (sg, R.2) :: L' := ha1.symm.trans hac
        have hBi := hB.2 i (by omega)
        have hBi1 := hB.2 (i + 1) (by omega)
        rcases hs with ⟨rfl, rfl, rfl⟩ | ⟨rfl, rfl, rfl⟩
        · refine lv_aload_n hx hb dX6_runActs_54 rfl (lv_lk hl rfl) ?_
          refine call_F (va_runV ⟨hx, hb, hml, hown, hts⟩ (m_X6_readsAct_ok43 l E ρ 0 ((recN n : Int)) kd1 nm1 s1 (recH st hi n) ke tx wy1 hρ N i (by omega) hB hi1 htx ⟨hd1, hd2, hd3⟩) (cwV 0 hts (gi_V ml_X6_153 im_X6_readsAct sl_X6_readsAct it_X6 cd_X6_readsAct) rfl rfl rfl (by decide +kernel) ⟨Nat.le_of_ble_eq_true rfl, Nat.le_of_ble_eq_true rfl⟩) (pR_V (q0 := 0) (ci := 6) hP hK rfl rfl) rfl rfl hl.1 rfl (lv_room (Nat.le_of_ble_eq_true rfl)) dX6_runActs_55 ⟨Nat.le_of_ble_eq_true rfl, Nat.le_of_ble_eq_true rfl⟩) (dm hD rfl) hS rfl (fun H locs hP hS => ?_)
          have hP : va_P E.1 vwCl (refW E ρ 0 ((recN n : Int)) ((N : Int)) (((runN (N - (i + 1 + 1)) tx (i + 1 + 1) (tx (i + 1) - 48) 99).1 : Int)) 43 ((runN (N - (i + 1 + 1)) tx (i + 1 + 1) (tx (i + 1) - 48) 99).2) s1 (recH st hi n) ke tx wy1) H := hP
          refine lv_pop hx hb dX6_runActs_58 rfl ?_
          have hP : va_P E.1 vwCl (refW E ρ 0 ((recN n : Int)) ((N : Int)) ((R.1 : Int)) 43 R.2 s1 (recH st hi n) ke tx wy1) H := by rw [hR]; exact hP
          refine lv_aload_n hx hb dX6_runActs_59 rfl (lv_lk hl rfl) ?_
          refine lv_dup hx hb dX6_runActs_60 rfl ?_
          refine va_get (D := E.1) (ci := 6) hx hb hts inX6 hown hK.1 hP 0 rfl rfl 8 (by decide) (hts _ fl_X6_137) (fun _ h9 => h9) rfl dX6_runActs_61 ?_
          refine iv_iconst hx hb dX6_runActs_64 ?_
          refine iv_iadd hx hb dX6_runActs_65 ?_
          refine iv_eq (((R.1 + 1 : Nat) : Int)) (by omega) ?_
          refine va_put (ci := 6) (ty := .int) hx hb hts inX6 tyX6 tyX6_ok nmX6 hown hK.1 hP (dm hD rfl) hS 0 rfl rfl 8 (by decide) (hts _ fl_X6_137) (fun _ h9 => h9) rfl (by decide +kernel) rfl rfl (Nat.le_of_ble_eq_true rfl) dX6_runActs_66 (fun H locs hP _ hS => ?_)
          have hP : va_P E.1 vwCl (refW E ρ 0 ((recN n : Int)) ((N : Int)) (((R.1 + 1 : Nat) : Int)) 43 R.2 s1 (recH st hi n) ke tx wy1) H := hP
          by_cases h9 : s1 0 + R.2 ≤ 9999
          · refine lv_aload_n hx hb dX6_runActs_69 rfl (lv_lk hl rfl) ?_
            refine call_F (va_runV ⟨hx, hb, hml, hown, hts⟩ (m_X6_happens_pass l E ρ 0 ((recN n : Int)) ((N : Int)) (((R.1 + 1 : Nat) : Int)) s1 (recH st hi n) ke tx wy1 hρ 9999 hI1 R.2 (by omega) (by omega) h9) (cwV 0 hts (gi_V ml_X6_160 im_X6_happens sl_X6_happens it_X6 cd_X6_happens) rfl rfl rfl (by decide +kernel) ⟨Nat.le_of_ble_eq_true rfl, Nat.le_of_ble_eq_true rfl⟩) (pR_V (q0 := 0) (ci := 6) hP hK rfl rfl) rfl rfl hl.1 rfl (lv_room (Nat.le_of_ble_eq_true rfl)) dX6_runActs_70 ⟨Nat.le_of_ble_eq_true rfl, Nat.le_of_ble_eq_true rfl⟩) (dm hD rfl) hS rfl (fun H locs hP hS => ?_)
            have hP : va_P E.1 vwCl (refW E ρ 0 ((recN n : Int)) ((N : Int)) (((R.1 + 1 : Nat) : Int)) 43 R.2 (passes s1 R.2) (recH st hi n) ke tx wy1) H := hP
            refine lv_istore_n (lv' := [(2, .int (I _)), (0, .ref _), (1, .int (I _))]) hx hb dX6_runActs_73 rfl hl (by decide) rfl (fun ls hl => ?_)
            refine lv_iload_n hx hb dX6_runActs_74 rfl (lv_lk hl rfl) ?_
            refine lv_iload_n hx hb dX6_runActs_75 rfl (lv_lk hl rfl) ?_
            refine iv_if_eq (tgt := 83) hx hb dX6_runActs_76 (by decide) (by omega) (fun c_76 => by exfalso; omega) (fun c_76 => ?_)
            refine iv_iconst hx hb dX6_runActs_79 ?_
            refine lv_goto (tgt := 84) hx hb dX6_runActs_80 (by decide) ?_
            refine iv_iadd hx hb dX6_runActs_84 ?_
            refine lv_istore_n (lv' := [(1, .int (I _)), (2, .int (I _)), (0, .ref _)]) hx hb dX6_runActs_85 rfl hl (by decide) rfl (fun ls hl => ?_)
            refine lv_goto (tgt := 39) hx hb dX6_runActs_86 (by decide) ?_
            exact ih (R.1 + 1) L' (actSt s1 (43, R.2)) wy1 (c9 + 1) 43 R.2 (by omega) hnx (by exact IB_passes2 hI1 R.2 (by omega) 9999 (by omega)) (by rw [← he9, hLe, runA, if_pos (by exact Or.inr h9)]; show c9 + 1 + (runA L' (actSt s1 _)).2 = _; omega) (by rw [← he8, hLe, runA, if_pos (by exact Or.inr h9)]) H locs ls hP hS (lv_sub hl [2, 0, 1] rfl)
          · refine lv_aload_n hx hb dX6_runActs_69 rfl (lv_lk hl rfl) ?_
            refine call_F (va_runV ⟨hx, hb, hml, hown, hts⟩ (m_X6_happens_no l E ρ 0 ((recN n : Int)) ((N : Int)) (((R.1 + 1 : Nat) : Int)) s1 (recH st hi n) ke tx wy1 hρ 9999 hI1 R.2 (by omega) (by omega) h9) (cwV 0 hts (gi_V ml_X6_160 im_X6_happens sl_X6_happens it_X6 cd_X6_happens) rfl rfl rfl (by decide +kernel) ⟨Nat.le_of_ble_eq_true rfl, Nat.le_of_ble_eq_true rfl⟩) (pR_V (q0 := 0) (ci := 6) hP hK rfl rfl) rfl rfl hl.1 rfl (lv_room (Nat.le_of_ble_eq_true rfl)) dX6_runActs_70 ⟨Nat.le_of_ble_eq_true rfl, Nat.le_of_ble_eq_true rfl⟩) (dm hD rfl) hS rfl (fun H locs hP hS => ?_)
            have hP : va_P E.1 vwCl (refW E ρ 0 ((recN n : Int)) ((N : Int)) (((R.1 + 1 : Nat) : Int)) 43 R.2 s1 (recH st hi n) ke tx wy1) H := hP
            refine lv_istore_n (lv' := [(2, .int (I _)), (0, .ref _), (1, .int (I _))]) hx hb dX6_runActs_73 rfl hl (by decide) rfl (fun ls hl => ?_)
            refine lv_iload_n hx hb dX6_runActs_74 rfl (lv_lk hl rfl) ?_
            refine lv_iload_n hx hb dX6_runActs_75 rfl (lv_lk hl rfl) ?_
            refine iv_if_eq (tgt := 83) hx hb dX6_runActs_76 (by decide) (by omega) (fun c_76 => ?_) (fun c_76 => by exfalso; omega)
            refine iv_iconst hx hb dX6_runActs_83 ?_
            refine iv_iadd hx hb dX6_runActs_84 ?_
            refine lv_istore_n (lv' := [(1, .int (I _)), (2, .int (I _)), (0, .ref _)]) hx hb dX6_runActs_85 rfl hl (by decide) rfl (fun ls hl => ?_)
            refine lv_goto (tgt := 39) hx hb dX6_runActs_86 (by decide) ?_
            refine lv_iload_n hx hb dX6_runActs_39 rfl (lv_lk hl rfl) ?_
            refine iv_if_eq (tgt := 89) hx hb dX6_runActs_40 (by decide) (by omega) (fun c_40 => ?_) (fun c_40 => by exfalso; omega)
            refine lv_aload_n hx hb dX6_runActs_89 rfl (lv_lk hl rfl) ?_
            refine iv_iconst hx hb dX6_runActs_90 ?_
            refine va_put (ci := 6) (ty := .int) hx hb hts inX6 tyX6 tyX6_ok nmX6 hown hK.1 hP (dm hD rfl) hS 0 rfl rfl 6 (by decide) (hts _ fl_X6_134) (fun _ h9 => h9) rfl (by decide +kernel) rfl rfl (Nat.le_of_ble_eq_true rfl) dX6_runActs_91 (fun H locs hP _ hS => ?_)
            have hP : va_P E.1 vwCl (refW E ρ 0 ((recN n : Int)) 0 (((R.1 + 1 : Nat) : Int)) 43 R.2 s1 (recH st hi n) ke tx wy1) H := hP
            refine lv_iload_n hx hb dX6_runActs_94 rfl (lv_lk hl rfl) ?_
            refine iv_eq ((runA (acF N tx 0 (-1) (-1)) st).2) (by rw [← he9, hLe, runA, if_neg (by omega)]) ?_
            exact W.iret hx hb hrt (fun t ht hW => ⟨rfl, ⟨(((R.1 + 1 : Nat) : Int), 43, R.2, wy1), by rw [ht]; exact (by rw [← he8, hLe, runA, if_neg (by omega)]; exact hP)⟩, hS.F ht⟩) hS.2.2 dX6_runActs_95 hlocks
        · refine lv_aload_n hx hb dX6_runActs_54 rfl (lv_lk hl rfl) ?_
          refine call_F (va_runV ⟨hx, hb, hml, hown, hts⟩ (m_X6_readsAct_ok63 l E ρ 0 ((recN n : Int)) kd1 nm1 s1 (recH st hi n) ke tx wy1 hρ N i (by omega) hB hi1 htx ⟨hd1, hd2, hd3⟩) (cwV 0 hts (gi_V ml_X6_153 im_X6_readsAct sl_X6_readsAct it_X6 cd_X6_readsAct) rfl rfl rfl (by decide +kernel) ⟨Nat.le_of_ble_eq_true rfl, Nat.le_of_ble_eq_true rfl⟩) (pR_V (q0 := 0) (ci := 6) hP hK rfl rfl) rfl rfl hl.1 rfl (lv_room (Nat.le_of_ble_eq_true rfl)) dX6_runActs_55 ⟨Nat.le_of_ble_eq_true rfl, Nat.le_of_ble_eq_true rfl⟩) (dm hD rfl) hS rfl (fun H locs hP hS => ?_)
          have hP : va_P E.1 vwCl (refW E ρ 0 ((recN n : Int)) ((N : Int)) (((runN (N - (i + 1 + 1)) tx (i + 1 + 1) (tx (i + 1) - 48) 35).1 : Int)) 63 ((runN (N - (i + 1 + 1)) tx (i + 1 + 1) (tx (i + 1) - 48) 35).2) s1 (recH st hi n) ke tx wy1) H := hP
          refine lv_pop hx hb dX6_runActs_58 rfl ?_
          have hP : va_P E.1 vwCl (refW E ρ 0 ((recN n : Int)) ((N : Int)) ((R.1 : Int)) 63 R.2 s1 (recH st hi n) ke tx wy1) H := by rw [hR]; exact hP
          refine lv_aload_n hx hb dX6_runActs_59 rfl (lv_lk hl rfl) ?_
          refine lv_dup hx hb dX6_runActs_60 rfl ?_
          refine va_get (D := E.1) (ci := 6) hx hb hts inX6 hown hK.1 hP 0 rfl rfl 8 (by decide) (hts _ fl_X6_137) (fun _ h9 => h9) rfl dX6_runActs_61 ?_
          refine iv_iconst hx hb dX6_runActs_64 ?_
          refine iv_iadd hx hb dX6_runActs_65 ?_
          refine iv_eq (((R.1 + 1 : Nat) : Int)) (by omega) ?_
          refine va_put (ci := 6) (ty := .int) hx hb hts inX6 tyX6 tyX6_ok nmX6 hown hK.1 hP (dm hD rfl) hS 0 rfl rfl 8 (by decide) (hts _ fl_X6_137) (fun _ h9 => h9) rfl (by decide +kernel) rfl rfl (Nat.le_of_ble_eq_true rfl) dX6_runActs_66 (fun H locs hP _ hS => ?_)
          have hP : va_P E.1 vwCl (refW E ρ 0 ((recN n : Int)) ((N : Int)) (((R.1 + 1 : Nat) : Int)) 63 R.2 s1 (recH st hi n) ke tx wy1) H := hP
          have hP : va_P E.1 vwCl (refW E ρ 0 ((recN n : Int)) ((N : Int)) (((R.1 + 1 : Nat) : Int)) 63 ((R.2.toNat : Int)) s1 (recH st hi n) ke tx wy1) H := by rw [show ((R.2.toNat : Nat) : Int) = R.2 by omega]; exact hP
          refine lv_aload_n hx hb dX6_runActs_69 rfl (lv_lk hl rfl) ?_
          refine call_X (va_runV ⟨hx, hb, hml, hown, hts⟩ (m_X6_happens_solve l E ρ 0 ((recN n : Int)) ((N : Int)) (((R.1 + 1 : Nat) : Int)) s1 (recH st hi n) ke tx wy1 hρ 9999 hI1 R.2.toNat (by omega)) (cwV 0 hts (gi_V ml_X6_160 im_X6_happens sl_X6_happens it_X6 cd_X6_happens) rfl rfl rfl (by decide +kernel) ⟨Nat.le_of_ble_eq_true rfl, Nat.le_of_ble_eq_true rfl⟩) (pR_V (q0 := 0) (ci := 6) hP hK rfl rfl) rfl rfl hl.1 rfl (lv_room (Nat.le_of_ble_eq_true rfl)) dX6_runActs_70 ⟨Nat.le_of_ble_eq_true rfl, Nat.le_of_ble_eq_true rfl⟩) (dm hD rfl) hS rfl (fun wy2 H locs hP hS => ?_)
          have hP : va_P E.1 vwCl (refW E ρ 0 ((recN n : Int)) ((N : Int)) (((R.1 + 1 : Nat) : Int)) 63 ((R.2.toNat : Int)) ((solve1 s1 R.2.toNat).1) (recH st hi n) ke tx wy2) H := hP
          refine lv_istore_n (lv' := [(2, .int (I _)), (0, .ref _), (1, .int (I _))]) hx hb dX6_runActs_73 rfl hl (by decide) rfl (fun ls hl => ?_)
          refine lv_iload_n hx hb dX6_runActs_74 rfl (lv_lk hl rfl) ?_
          refine lv_iload_n hx hb dX6_runActs_75 rfl (lv_lk hl rfl) ?_
          refine iv_if_eq (tgt := 83) hx hb dX6_runActs_76 (by decide) (by omega) (fun c_76 => by exfalso; omega) (fun c_76 => ?_)
          refine iv_iconst hx hb dX6_runActs_79 ?_
          refine lv_goto (tgt := 84) hx hb dX6_runActs_80 (by decide) ?_
          refine iv_iadd hx hb dX6_runActs_84 ?_
          refine iv_eq (c9 + 1) rfl ?_
          refine lv_istore_n (lv' := [(1, .int (I _)), (2, .int (I _)), (0, .ref _)]) hx hb dX6_runActs_85 rfl hl (by decide) rfl (fun ls hl => ?_)
          refine lv_goto (tgt := 39) hx hb dX6_runActs_86 (by decide) ?_
          exact ih (R.1 + 1) L' (actSt s1 (63, R.2)) wy2 (c9 + 1) 63 ((R.2.toNat : Int)) (by omega) hnx (by exact IB_solve1 hI1 (by omega)) (by rw [← he9, hLe, runA, if_pos (by exact Or.inl rfl)]; show c9 + 1 + (runA L' (actSt s1 _)).2 = _; omega) (by rw [← he8, hLe, runA, if_pos (by exact Or.inl rfl)]) H locs ls hP hS (lv_sub hl [2, 0, 1] rfl)
  exact LOOP39 (N + 1) 0 (acF N tx 0 (-1) (-1)) st wy 0 g1.2.1 g1.2.2 (by omega) (Or.inr ⟨hN0, hp0, rfl⟩) hI (by omega) rfl _ _ _ hP hS (lv_sub hl [2, 1, 0] rfl)
set_option maxHeartbeats 4000000 in
set_option maxRecDepth 100000 in
theorem m_X6_runActs_bad (l : Launch) (E : Env3) (ρ : Nat → Nat) (th rc pa kd nm : Int) (st hi ke tx wy : S) (hρ : dR ρ 6) (N : Nat) (hB : txB N tx) (hp0 : ¬ pmF N tx 0 (-1) (-1) = -1) (hp1 : -1 ≤ pmF N tx 0 (-1) (-1) ∧ pmF N tx 0 (-1) (-1) ≤ 100) : Met l yX6_runActs (Cond.code yX6_runActs cX6_runActs 3 (some .int) :: ALL) ({ frames := 7, cells := 0, slots := 0, locals := 156 }) (pR [.ref (ρ 0)] E (refW E ρ th rc ((N : Int)) pa kd nm st hi ke tx wy)) (qX (some (.int (I 0))) E (refW E ρ th rc ((N : Int)) pa kd nm st hi ke tx wy) (fun (g : Int × Int × Int) => (refW E ρ 1 rc ((N : Int)) g.1 g.2.1 g.2.2 st hi ke tx wy))) 0 0 (adIn (refW E ρ th rc ((N : Int)) pa kd nm st hi ke tx wy)) := by
  refine mk_met (by decide) rfl (Nat.le_of_ble_eq_true rfl) ?_
  intro p e s m args below meth c hx hb hrt hml hts hown hlocks hnm hP hK ls hl
  have hown : s.vm.findClass RX6 = some m.cls := hown
  have hl : lv_has ls 3 [(0, .ref (ρ 0))] := hl
  have hD : va_D (adIn (refW E ρ th rc ((N : Int)) pa kd nm st hi ke tx wy)) (refW E ρ th rc ((N : Int)) pa kd nm st hi ke tx wy) := D_of_dR hρ rfl
  have hS : va_S (adIn (refW E ρ th rc ((N : Int)) pa kd nm st hi ke tx wy)) s.heap s.heap [] := va_S.rf
  refine lv_aload_n hx hb dX6_runActs_0 rfl (lv_lk hl rfl) ?_
  refine lv_aload_n hx hb dX6_runActs_1 rfl (lv_lk hl rfl) ?_
  refine call_X (va_runV ⟨hx, hb, hml, hown, hts⟩ (m_X6_findError l E ρ th rc pa kd nm st hi ke tx wy hρ N hB ) (cwV 0 hts (gi_V ml_X6_157 im_X6_findError sl_X6_findError it_X6 cd_X6_findError) rfl rfl rfl (by decide +kernel) ⟨Nat.le_of_ble_eq_true rfl, Nat.le_of_ble_eq_true rfl⟩) (pR_V (q0 := 0) (ci := 6) hP hK rfl rfl) rfl rfl hl.1 rfl (lv_room (Nat.le_of_ble_eq_true rfl)) dX6_runActs_2 ⟨Nat.le_of_ble_eq_true rfl, Nat.le_of_ble_eq_true rfl⟩) (dm hD rfl) hS rfl (fun g1 H locs hP hS => ?_)
  have hP : va_P E.1 vwCl (refW E ρ th rc ((N : Int)) g1.1 g1.2.1 g1.2.2 st hi ke tx wy) H := hP
  refine iv_iconst hx hb dX6_runActs_5 ?_
  refine iv_icmp_ne (tgt := 13) hx hb dX6_runActs_6 (by decide) (by omega) (by omega) (fun c_6 => ?_) (fun c_6 => by exfalso; omega)
  refine iv_iconst hx hb dX6_runActs_13 ?_
  refine va_put (ci := 6) (ty := .int) hx hb hts inX6 tyX6 tyX6_ok nmX6 hown hK.1 hP (dm hD rfl) hS 0 rfl rfl 0 (by decide) (hts _ fl_X6_32) (fun _ h9 => h9) rfl (by decide +kernel) rfl rfl (Nat.le_of_ble_eq_true rfl) dX6_runActs_14 (fun H locs hP _ hS => ?_)
  have hP : va_P E.1 vwCl (refW E ρ 1 rc ((N : Int)) g1.1 g1.2.1 g1.2.2 st hi ke tx wy) H := hP
  refine lv_aload_n hx hb dX6_runActs_17 rfl (lv_lk hl rfl) ?_
  refine va_get (D := E.1) (ci := 6) hx hb hts inX6 hown hK.1 hP 0 rfl rfl 0 (by decide) (hts _ fl_X6_32) (fun _ h9 => h9) rfl dX6_runActs_18 ?_
  refine iv_if_le (tgt := 26) hx hb dX6_runActs_21 (by decide) (by omega) (fun c_21 => by exfalso; omega) (fun c_21 => ?_)
  refine iv_iconst hx hb dX6_runActs_24 ?_
  exact W.iret hx hb hrt (fun t ht hW => ⟨rfl, ⟨(g1.1, g1.2.1, g1.2.2), by rw [ht]; exact hP⟩, hS.F ht⟩) hS.2.2 dX6_runActs_25 hlocks
