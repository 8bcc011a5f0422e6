/-! the reference, sixth part; written by ref.py -/
theorem old_a {st : S} {r : Nat} {b9 : Int} (hb9 : b9 = if st (36 + 6 * r + 3) = 3 then (if st (36 + 6 * r) = 0 then 1 else 0) else if st (36 + 6 * r + 3) = st (36 + 6 * r) ∧ st (36 + 6 * r + 4) = st (36 + 6 * r + 1) then 1 else 0) (h : ¬ b9 = 0) : (0 : Int) = if st (36 + 6 * r + 3) = 3 then (if st (36 + 6 * r) = 0 then 0 else 1) else if st (36 + 6 * r + 3) = st (36 + 6 * r) ∧ st (36 + 6 * r + 4) = st (36 + 6 * r + 1) then 0 else 1 := by
  subst hb9
  by_cases h3 : st (36 + 6 * r + 3) = 3
  · rw [if_pos h3] at h ⊢
    by_cases h0 : st (36 + 6 * r) = 0
    · rw [if_pos h0]
    · rw [if_neg h0] at h; exact absurd rfl h
  · rw [if_neg h3] at h ⊢
    by_cases h0 : st (36 + 6 * r + 3) = st (36 + 6 * r) ∧ st (36 + 6 * r + 4) = st (36 + 6 * r + 1)
    · rw [if_pos h0]
    · rw [if_neg h0] at h; exact absurd rfl h
theorem old_b {st : S} {r : Nat} {b9 : Int} (hb9 : b9 = if st (36 + 6 * r + 3) = 3 then (if st (36 + 6 * r) = 0 then 1 else 0) else if st (36 + 6 * r + 3) = st (36 + 6 * r) ∧ st (36 + 6 * r + 4) = st (36 + 6 * r + 1) then 1 else 0) (h : b9 = 0) : (1 : Int) = if st (36 + 6 * r + 3) = 3 then (if st (36 + 6 * r) = 0 then 0 else 1) else if st (36 + 6 * r + 3) = st (36 + 6 * r) ∧ st (36 + 6 * r + 4) = st (36 + 6 * r + 1) then 0 else 1 := by
  subst hb9
  by_cases h3 : st (36 + 6 * r + 3) = 3
  · rw [if_pos h3] at h ⊢
    by_cases h0 : st (36 + 6 * r) = 0
    · rw [if_pos h0] at h; exact absurd h (by decide)
    · rw [if_neg h0]
  · rw [if_neg h3] at h ⊢
    by_cases h0 : st (36 + 6 * r + 3) = st (36 + 6 * r) ∧ st (36 + 6 * r + 4) = st (36 + 6 * r + 1)
    · rw [if_pos h0] at h; exact absurd h (by decide)
    · rw [if_neg h0]
set_option maxHeartbeats 4000000 in
set_option maxRecDepth 100000 in
theorem m_X6_isOld (l : Launch) (E : Env3) (ρ : Nat → Nat) (th rc tl pa kd nm : Int) (st hi ke tx wy : S) (T : Int) (hI : IB T st) (r : Nat) (hr : r < 36) : Met l yX6_isOld (Cond.code yX6_isOld cX6_isOld 4 (some .boolean) :: ALL) ({ frames := 1, cells := 0, slots := 0, locals := 22 }) (pR [.ref (ρ 0), .int (I (r : Int))] E (refW E ρ th rc tl pa kd nm st hi ke tx wy)) (qS (some (.int (I (oldI st r))))) 0 0 (fun _ => False) := by
  refine mk_met (by decide) rfl (Nat.le_of_ble_eq_true rfl) ?_
  intro p e s m args below meth c hx hb hrt hml hts hown hlocks hnm hP hK ls hl
  have hown : s.vm.findClass RX6 = some m.cls := hown
  have hl : lv_has ls 4 [(0, .ref (ρ 0)), (1, .int (I (r : Int)))] := hl
  have hS : va_S (fun _ => False) s.heap s.heap [] := va_S.rf
  have t1 := (hI.2.2.2 r hr).1
  unfold triT at t1
  have t3 := (hI.2.2.2 r hr).2
  unfold triM at t3
  have fin_3 : st (36 + 6 * r + 3) = 3 → (if st (36 + 6 * r + 3) = 3 then (if st (36 + 6 * r) = 0 then (1 : Int) else 0) else if st (36 + 6 * r + 3) = st (36 + 6 * r) ∧ st (36 + 6 * r + 4) = st (36 + 6 * r + 1) then 1 else 0) = if st (36 + 6 * r) = 0 then 1 else 0 := fun h => if_pos h
  have fin_t : ¬ st (36 + 6 * r + 3) = 3 → (st (36 + 6 * r + 3) = st (36 + 6 * r) ∧ st (36 + 6 * r + 4) = st (36 + 6 * r + 1)) → (if st (36 + 6 * r + 3) = 3 then (if st (36 + 6 * r) = 0 then (1 : Int) else 0) else if st (36 + 6 * r + 3) = st (36 + 6 * r) ∧ st (36 + 6 * r + 4) = st (36 + 6 * r + 1) then 1 else 0) = 1 := fun h g => by rw [if_neg h, if_pos g]
  have fin_f : ¬ st (36 + 6 * r + 3) = 3 → ¬ (st (36 + 6 * r + 3) = st (36 + 6 * r) ∧ st (36 + 6 * r + 4) = st (36 + 6 * r + 1)) → (if st (36 + 6 * r + 3) = 3 then (if st (36 + 6 * r) = 0 then (1 : Int) else 0) else if st (36 + 6 * r + 3) = st (36 + 6 * r) ∧ st (36 + 6 * r + 4) = st (36 + 6 * r + 1) then 1 else 0) = 0 := fun h g => by rw [if_neg h, if_neg g]
  have CUT59 : ∀ (b9 : Int), (b9 = if st (36 + 6 * r + 3) = 3 then (if st (36 + 6 * r) = 0 then 1 else 0) else if st (36 + 6 * r + 3) = st (36 + 6 * r) ∧ st (36 + 6 * r + 4) = st (36 + 6 * r + 1) then 1 else 0) → ∀ (locs : List Loc) (ls : Array Slot), va_S (fun _ => False) s.heap s.heap locs → lv_has ls 4 [(0, .ref (ρ 0)), (1, .int (I (r : Int))), (2, .int (I (st (36 + 6 * r + 3))))] → W p l e ({ frames := 1, cells := 0, slots := 0, locals := 22 }) s m args below meth c s.heap locs 0 0 (MQ below (qS (some (.int (I (oldI st r))))) args s 0 0 (fun _ => False)) (F0 m 59 ls [.int (I b9)]) := by
    intro b9 hb9 locs ls hS hl
    have hb8 : b9 = 0 ∨ b9 = 1 := by rw [hb9]; split <;> split <;> omega
    refine lv_istore_n (lv' := [(3, .int (I _)), (0, .ref _), (1, .int (I _)), (2, .int (I _))]) hx hb dX6_isOld_59 rfl hl (by decide) rfl (fun ls hl => ?_)
    refine lv_iload_n hx hb dX6_isOld_60 rfl (lv_lk hl rfl) ?_
    refine iv_if_eq (tgt := 72) hx hb dX6_isOld_61 (by decide) (by omega) (fun c_61 => ?_) (fun c_61 => ?_)
    · refine iv_iconst hx hb dX6_isOld_72 ?_
      refine iv_eq (oldI st r) (by rw [oldI, if_pos c_61]) ?_
      exact W.zret (ty := .boolean) hx hb hrt old_nar (fun t ht hW => ⟨rfl, ht⟩) hS.2.2 dX6_isOld_73 hlocks
    · refine lv_iload_n hx hb dX6_isOld_64 rfl (lv_lk hl rfl) ?_
      refine iv_if_ne (tgt := 72) hx hb dX6_isOld_65 (by decide) (by omega) (fun c_65 => ?_) (fun c_65 => ?_)
      · refine iv_iconst hx hb dX6_isOld_72 ?_
        refine iv_eq (oldI st r) (by rw [oldI, if_neg c_61]; exact old_a hb9 (by omega)) ?_
        exact W.zret (ty := .boolean) hx hb hrt old_nar (fun t ht hW => ⟨rfl, ht⟩) hS.2.2 dX6_isOld_73 hlocks
      · refine iv_iconst hx hb dX6_isOld_68 ?_
        refine lv_goto (tgt := 73) hx hb dX6_isOld_69 (by decide) ?_
        refine iv_eq (oldI st r) (by rw [oldI, if_neg c_61]; exact old_b hb9 (by omega)) ?_
        exact W.zret (ty := .boolean) hx hb hrt old_nar (fun t ht hW => ⟨rfl, ht⟩) hS.2.2 dX6_isOld_73 hlocks
  refine lv_aload_n hx hb dX6_isOld_0 rfl (lv_lk hl rfl) ?_
  refine lv_iload_n hx hb dX6_isOld_1 rfl (lv_lk hl rfl) ?_
  refine iv_iconst hx hb dX6_isOld_2 ?_
  refine call_S (va_runV ⟨hx, hb, hml, hown, hts⟩ (m_X6_of l E ρ th rc tl pa kd nm st hi ke tx wy r 3 hr (by decide)) (cwV 2 hts (gi_V ml_X6_61 im_X6_of sl_X6_of it_X6 cd_X6_of) rfl rfl rfl (by decide +kernel) ⟨Nat.le_of_ble_eq_true rfl, Nat.le_of_ble_eq_true rfl⟩) (pR_V (q0 := 0) (ci := 6) hP hK rfl rfl) rfl rfl hl.1 rfl (lv_room (Nat.le_of_ble_eq_true rfl)) dX6_isOld_3 ⟨Nat.le_of_ble_eq_true rfl, Nat.le_of_ble_eq_true rfl⟩) (fun _ h => h) hS rfl (fun locs hS => ?_)
  refine lv_istore_n (lv' := [(2, .int (I _)), (0, .ref _), (1, .int (I _))]) hx hb dX6_isOld_6 rfl hl (by decide) rfl (fun ls hl => ?_)
  refine lv_iload_n hx hb dX6_isOld_7 rfl (lv_lk hl rfl) ?_
  refine iv_iconst hx hb dX6_isOld_8 ?_
  refine iv_icmp_ne (tgt := 29) hx hb dX6_isOld_9 (by decide) (by omega) (by omega) (fun c_9 => ?_) (fun c_9 => ?_)
  · refine lv_iload_n hx hb dX6_isOld_29 rfl (lv_lk hl rfl) ?_
    refine lv_aload_n hx hb dX6_isOld_30 rfl (lv_lk hl rfl) ?_
    refine lv_iload_n hx hb dX6_isOld_31 rfl (lv_lk hl rfl) ?_
    refine iv_iconst hx hb dX6_isOld_32 ?_
    refine call_S (va_runV ⟨hx, hb, hml, hown, hts⟩ (m_X6_of l E ρ th rc tl pa kd nm st hi ke tx wy r 0 hr (by decide)) (cwV 2 hts (gi_V ml_X6_61 im_X6_of sl_X6_of it_X6 cd_X6_of) rfl rfl rfl (by decide +kernel) ⟨Nat.le_of_ble_eq_true rfl, Nat.le_of_ble_eq_true rfl⟩) (pR_V (q0 := 0) (ci := 6) hP hK rfl rfl) rfl rfl hl.1 rfl (lv_room (Nat.le_of_ble_eq_true rfl)) dX6_isOld_33 ⟨Nat.le_of_ble_eq_true rfl, Nat.le_of_ble_eq_true rfl⟩) (fun _ h => h) hS rfl (fun locs hS => ?_)
    refine iv_eq (st (36 + 6 * r)) (rfl) ?_
    refine iv_icmp_ne (tgt := 58) hx hb dX6_isOld_36 (by decide) (by omega) (by omega) (fun c_36 => ?_) (fun c_36 => ?_)
    · refine iv_iconst hx hb dX6_isOld_58 ?_
      exact CUT59 0 (by rw [fin_f c_9 (by omega)]) _ _ hS (lv_sub hl [1, 2, 0] rfl)
    · refine lv_aload_n hx hb dX6_isOld_39 rfl (lv_lk hl rfl) ?_
      refine lv_iload_n hx hb dX6_isOld_40 rfl (lv_lk hl rfl) ?_
      refine iv_iconst hx hb dX6_isOld_41 ?_
      refine call_S (va_runV ⟨hx, hb, hml, hown, hts⟩ (m_X6_of l E ρ th rc tl pa kd nm st hi ke tx wy r 4 hr (by decide)) (cwV 2 hts (gi_V ml_X6_61 im_X6_of sl_X6_of it_X6 cd_X6_of) rfl rfl rfl (by decide +kernel) ⟨Nat.le_of_ble_eq_true rfl, Nat.le_of_ble_eq_true rfl⟩) (pR_V (q0 := 0) (ci := 6) hP hK rfl rfl) rfl rfl hl.1 rfl (lv_room (Nat.le_of_ble_eq_true rfl)) dX6_isOld_42 ⟨Nat.le_of_ble_eq_true rfl, Nat.le_of_ble_eq_true rfl⟩) (fun _ h => h) hS rfl (fun locs hS => ?_)
      refine lv_aload_n hx hb dX6_isOld_45 rfl (lv_lk hl rfl) ?_
      refine lv_iload_n hx hb dX6_isOld_46 rfl (lv_lk hl rfl) ?_
      refine iv_iconst hx hb dX6_isOld_47 ?_
      refine call_S (va_runV ⟨hx, hb, hml, hown, hts⟩ (m_X6_of l E ρ th rc tl pa kd nm st hi ke tx wy r 1 hr (by decide)) (cwV 2 hts (gi_V ml_X6_61 im_X6_of sl_X6_of it_X6 cd_X6_of) rfl rfl rfl (by decide +kernel) ⟨Nat.le_of_ble_eq_true rfl, Nat.le_of_ble_eq_true rfl⟩) (pR_V (q0 := 0) (ci := 6) hP hK rfl rfl) rfl rfl hl.1 rfl (lv_room (Nat.le_of_ble_eq_true rfl)) dX6_isOld_48 ⟨Nat.le_of_ble_eq_true rfl, Nat.le_of_ble_eq_true rfl⟩) (fun _ h => h) hS rfl (fun locs hS => ?_)
      refine iv_icmp_ne (tgt := 58) hx hb dX6_isOld_51 (by decide) (by omega) (by omega) (fun c_51 => ?_) (fun c_51 => ?_)
      · refine iv_iconst hx hb dX6_isOld_58 ?_
        exact CUT59 0 (by rw [fin_f c_9 (by omega)]) _ _ hS (lv_sub hl [1, 2, 0] rfl)
      · refine iv_iconst hx hb dX6_isOld_54 ?_
        refine lv_goto (tgt := 59) hx hb dX6_isOld_55 (by decide) ?_
        exact CUT59 1 (by rw [fin_t c_9 ⟨by omega, by omega⟩]) _ _ hS (lv_sub hl [1, 2, 0] rfl)
  · refine lv_aload_n hx hb dX6_isOld_12 rfl (lv_lk hl rfl) ?_
    refine lv_iload_n hx hb dX6_isOld_13 rfl (lv_lk hl rfl) ?_
    refine iv_iconst hx hb dX6_isOld_14 ?_
    refine call_S (va_runV ⟨hx, hb, hml, hown, hts⟩ (m_X6_of l E ρ th rc tl pa kd nm st hi ke tx wy r 0 hr (by decide)) (cwV 2 hts (gi_V ml_X6_61 im_X6_of sl_X6_of it_X6 cd_X6_of) rfl rfl rfl (by decide +kernel) ⟨Nat.le_of_ble_eq_true rfl, Nat.le_of_ble_eq_true rfl⟩) (pR_V (q0 := 0) (ci := 6) hP hK rfl rfl) rfl rfl hl.1 rfl (lv_room (Nat.le_of_ble_eq_true rfl)) dX6_isOld_15 ⟨Nat.le_of_ble_eq_true rfl, Nat.le_of_ble_eq_true rfl⟩) (fun _ h => h) hS rfl (fun locs hS => ?_)
    refine iv_eq (st (36 + 6 * r)) (rfl) ?_
    refine iv_if_ne (tgt := 25) hx hb dX6_isOld_18 (by decide) (by omega) (fun c_18 => ?_) (fun c_18 => ?_)
    · refine iv_iconst hx hb dX6_isOld_25 ?_
      refine lv_goto (tgt := 59) hx hb dX6_isOld_26 (by decide) ?_
      exact CUT59 0 (by rw [fin_3 c_9, if_neg c_18]) _ _ hS (lv_sub hl [1, 2, 0] rfl)
    · refine iv_iconst hx hb dX6_isOld_21 ?_
      refine lv_goto (tgt := 59) hx hb dX6_isOld_22 (by decide) ?_
      exact CUT59 1 (by rw [fin_3 c_9, if_pos c_18]) _ _ hS (lv_sub hl [1, 2, 0] rfl)
set_option maxHeartbeats 4000000 in
set_option maxRecDepth 100000 in
theorem m_X6_would (l : Launch) (E : Env3) (ρ : Nat → Nat) (th rc tl pa kd nm : Int) (st hi ke tx wy : S) (hρ : dR ρ 6) (T : Int) (hI : IB T st) (r : Nat) (hr : r < 36) : Met l yX6_would (Cond.code yX6_would cX6_would 3 (some .int) :: ALL) ({ frames := 5, cells := 0, slots := 0, locals := 114 }) (pR [.ref (ρ 0), .int (I (r : Int))] E (refW E ρ th rc tl pa kd nm st hi ke tx wy)) (qX (some (.int (I (would st r)))) E (refW E ρ th rc tl pa kd nm st hi ke tx wy) (fun (g : S × S) => (refW E ρ th rc tl pa kd nm st hi g.1 tx g.2))) 0 0 (adIn (refW E ρ th rc tl pa kd nm st hi ke tx wy)) := by
  refine mk_met (by decide) rfl (Nat.le_of_ble_eq_true rfl) ?_
  intro p e s m args below meth c hx hb hrt hml hts hown hlocks hnm hP hK ls hl
  have hown : s.vm.findClass RX6 = some m.cls := hown
  have hl : lv_has ls 3 [(0, .ref (ρ 0)), (1, .int (I (r : Int)))] := hl
  have hD : va_D (adIn (refW E ρ th rc tl pa kd nm st hi ke tx wy)) (refW E ρ th rc tl pa kd nm st hi ke tx wy) := D_of_dR hρ rfl
  have hS : va_S (adIn (refW E ρ th rc tl pa kd nm st hi ke tx wy)) s.heap s.heap [] := va_S.rf
  refine lv_aload_n hx hb dX6_would_0 rfl (lv_lk hl rfl) ?_
  refine va_get (D := E.1) (ci := 6) hx hb hts inX6 hown hK.1 hP 0 rfl rfl 1 (by decide) (hts _ fl_X6_7) (fun _ h9 => h9) rfl dX6_would_1 ?_
  refine iv_iconst hx hb dX6_would_4 ?_
  refine lv_aload_n hx hb dX6_would_5 rfl (lv_lk hl rfl) ?_
  refine va_get (D := E.1) (ci := 6) hx hb hts inX6 hown hK.1 hP 0 rfl rfl 4 (by decide) (hts _ fl_X6_16) (fun _ h9 => h9) rfl dX6_would_6 ?_
  refine iv_iconst hx hb dX6_would_9 ?_
  refine call_W (va_runS ⟨hx, hb, hml, hown, hts⟩ (m_X6_lays l E (ρ 1) (ρ 3) 252 252 0 0 st ke (fun h => absurd (hρ 1 3 (by decide) (by decide) h) (by decide)) (by omega) (by omega)) (va_cwS 4 hts (gi_S ml_X6_39 st_X6_lays it_X6 cd_X6_lays) rfl rfl rfl (by decide +kernel) ⟨Nat.le_of_ble_eq_true rfl, Nat.le_of_ble_eq_true rfl⟩) (pR_S (hP.sub (ws' := [(ρ 1, iA E 252 st), (ρ 3, iA E 252 ke)]) [1, 3] rfl) hK) rfl rfl hl.1 rfl (lv_room (Nat.le_of_ble_eq_true rfl)) dX6_would_10 ⟨Nat.le_of_ble_eq_true rfl, Nat.le_of_ble_eq_true rfl⟩) hP (dm hD rfl) hS [1, 3] rfl (by decide) rfl (refW E ρ th rc tl pa kd nm st hi (layN st 0 ke 0 252) tx wy) (rfl) rfl (fun H locs hP hS => ?_)
  refine lv_aload_n hx hb dX6_would_13 rfl (lv_lk hl rfl) ?_
  refine lv_iload_n hx hb dX6_would_14 rfl (lv_lk hl rfl) ?_
  refine call_X (va_runV ⟨hx, hb, hml, hown, hts⟩ (m_X6_solves l E ρ th rc tl pa kd nm st hi (layN st 0 ke 0 252) tx wy hρ T hI r hr) (cwV 1 hts (gi_V ml_X6_81 im_X6_solves sl_X6_solves it_X6 cd_X6_solves) rfl rfl rfl (by decide +kernel) ⟨Nat.le_of_ble_eq_true rfl, Nat.le_of_ble_eq_true rfl⟩) (pR_V (q0 := 0) (ci := 6) hP hK rfl rfl) rfl rfl hl.1 rfl (lv_room (Nat.le_of_ble_eq_true rfl)) dX6_would_15 ⟨Nat.le_of_ble_eq_true rfl, Nat.le_of_ble_eq_true rfl⟩) (dm hD rfl) hS rfl (fun wy1 H locs hP hS => ?_)
  have hP : va_P E.1 vwCl (refW E ρ th rc tl pa kd nm ((solvesF 7 st r).1) hi (layN st 0 ke 0 252) tx wy1) H := hP
  refine lv_istore_n (lv' := [(2, .int (I _)), (0, .ref _), (1, .int (I _))]) hx hb dX6_would_18 rfl hl (by decide) rfl (fun ls hl => ?_)
  refine lv_aload_n hx hb dX6_would_19 rfl (lv_lk hl rfl) ?_
  refine va_get (D := E.1) (ci := 6) hx hb hts inX6 hown hK.1 hP 0 rfl rfl 4 (by decide) (hts _ fl_X6_16) (fun _ h9 => h9) rfl dX6_would_20 ?_
  refine iv_iconst hx hb dX6_would_23 ?_
  refine lv_aload_n hx hb dX6_would_24 rfl (lv_lk hl rfl) ?_
  refine va_get (D := E.1) (ci := 6) hx hb hts inX6 hown hK.1 hP 0 rfl rfl 1 (by decide) (hts _ fl_X6_7) (fun _ h9 => h9) rfl dX6_would_25 ?_
  refine iv_iconst hx hb dX6_would_28 ?_
  refine call_W (va_runS ⟨hx, hb, hml, hown, hts⟩ (m_X6_lays l E (ρ 3) (ρ 1) 252 252 0 0 (layN st 0 ke 0 252) ((solvesF 7 st r).1) (fun h => absurd (hρ 3 1 (by decide) (by decide) h) (by decide)) (by omega) (by omega)) (va_cwS 4 hts (gi_S ml_X6_39 st_X6_lays it_X6 cd_X6_lays) rfl rfl rfl (by decide +kernel) ⟨Nat.le_of_ble_eq_true rfl, Nat.le_of_ble_eq_true rfl⟩) (pR_S (hP.sub (ws' := [(ρ 3, iA E 252 (layN st 0 ke 0 252)), (ρ 1, iA E 252 ((solvesF 7 st r).1))]) [3, 1] rfl) hK) rfl rfl hl.1 rfl (lv_room (Nat.le_of_ble_eq_true rfl)) dX6_would_29 ⟨Nat.le_of_ble_eq_true rfl, Nat.le_of_ble_eq_true rfl⟩) hP (dm hD rfl) hS [3, 1] rfl (by decide) rfl (refW E ρ th rc tl pa kd nm (layN (layN st 0 ke 0 252) 0 ((solvesF 7 st r).1) 0 252) hi (layN st 0 ke 0 252) tx wy1) (rfl) rfl (fun H locs hP hS => ?_)
  have hP : va_P E.1 vwCl (refW E ρ th rc tl pa kd nm st hi (layN st 0 ke 0 252) tx wy1) H := ref_st (fun j hj => lay_back hj) hP
  refine lv_iload_n hx hb dX6_would_32 rfl (lv_lk hl rfl) ?_
  exact W.iret hx hb hrt (fun t ht hW => ⟨rfl, ⟨(layN st 0 ke 0 252, wy1), by rw [ht]; exact hP⟩, hS.F ht⟩) hS.2.2 dX6_would_33 hlocks
set_option maxHeartbeats 4000000 in
set_option maxRecDepth 100000 in
theorem m_X6_cost (l : Launch) (E : Env3) (ρ : Nat → Nat) (th rc tl pa kd nm : Int) (st hi ke tx wy : S) (hρ : dR ρ 6) (T : Int) (hI : IB T st) (r : Nat) (hr : r < 36) : Met l yX6_cost (Cond.code yX6_cost cX6_cost 3 (some .int) :: ALL) ({ frames := 5, cells := 0, slots := 0, locals := 114 }) (pR [.ref (ρ 0), .int (I (r : Int))] E (refW E ρ th rc tl pa kd nm st hi ke tx wy)) (qX (some (.int (I (cost st r)))) E (refW E ρ th rc tl pa kd nm st hi ke tx wy) (fun (g : S × S) => (refW E ρ th rc tl pa kd nm st hi g.1 tx g.2))) 0 0 (adIn (refW E ρ th rc tl pa kd nm st hi ke tx wy)) := by
  refine mk_met (by decide) rfl (Nat.le_of_ble_eq_true rfl) ?_
  intro p e s m args below meth c hx hb hrt hml hts hown hlocks hnm hP hK ls hl
  have hown : s.vm.findClass RX6 = some m.cls := hown
  have hl : lv_has ls 3 [(0, .ref (ρ 0)), (1, .int (I (r : Int)))] := hl
  have hD : va_D (adIn (refW E ρ th rc tl pa kd nm st hi ke tx wy)) (refW E ρ th rc tl pa kd nm st hi ke tx wy) := D_of_dR hρ rfl
  have hS : va_S (adIn (refW E ρ th rc tl pa kd nm st hi ke tx wy)) s.heap s.heap [] := va_S.rf
  refine lv_aload_n hx hb dX6_cost_0 rfl (lv_lk hl rfl) ?_
  refine va_get (D := E.1) (ci := 6) hx hb hts inX6 hown hK.1 hP 0 rfl rfl 1 (by decide) (hts _ fl_X6_7) (fun _ h9 => h9) rfl dX6_cost_1 ?_
  refine iv_iconst hx hb dX6_cost_4 ?_
  refine lv_aload_n hx hb dX6_cost_5 rfl (lv_lk hl rfl) ?_
  refine va_get (D := E.1) (ci := 6) hx hb hts inX6 hown hK.1 hP 0 rfl rfl 4 (by decide) (hts _ fl_X6_16) (fun _ h9 => h9) rfl dX6_cost_6 ?_
  refine iv_iconst hx hb dX6_cost_9 ?_
  refine call_W (va_runS ⟨hx, hb, hml, hown, hts⟩ (m_X6_lays l E (ρ 1) (ρ 3) 252 252 0 0 st ke (fun h => absurd (hρ 1 3 (by decide) (by decide) h) (by decide)) (by omega) (by omega)) (va_cwS 4 hts (gi_S ml_X6_39 st_X6_lays it_X6 cd_X6_lays) rfl rfl rfl (by decide +kernel) ⟨Nat.le_of_ble_eq_true rfl, Nat.le_of_ble_eq_true rfl⟩) (pR_S (hP.sub (ws' := [(ρ 1, iA E 252 st), (ρ 3, iA E 252 ke)]) [1, 3] rfl) hK) rfl rfl hl.1 rfl (lv_room (Nat.le_of_ble_eq_true rfl)) dX6_cost_10 ⟨Nat.le_of_ble_eq_true rfl, Nat.le_of_ble_eq_true rfl⟩) hP (dm hD rfl) hS [1, 3] rfl (by decide) rfl (refW E ρ th rc tl pa kd nm st hi (layN st 0 ke 0 252) tx wy) (rfl) rfl (fun H locs hP hS => ?_)
  refine lv_aload_n hx hb dX6_cost_13 rfl (lv_lk hl rfl) ?_
  refine lv_iload_n hx hb dX6_cost_14 rfl (lv_lk hl rfl) ?_
  refine call_X (va_runV ⟨hx, hb, hml, hown, hts⟩ (m_X6_solves l E ρ th rc tl pa kd nm st hi (layN st 0 ke 0 252) tx wy hρ T hI r hr) (cwV 1 hts (gi_V ml_X6_81 im_X6_solves sl_X6_solves it_X6 cd_X6_solves) rfl rfl rfl (by decide +kernel) ⟨Nat.le_of_ble_eq_true rfl, Nat.le_of_ble_eq_true rfl⟩) (pR_V (q0 := 0) (ci := 6) hP hK rfl rfl) rfl rfl hl.1 rfl (lv_room (Nat.le_of_ble_eq_true rfl)) dX6_cost_15 ⟨Nat.le_of_ble_eq_true rfl, Nat.le_of_ble_eq_true rfl⟩) (dm hD rfl) hS rfl (fun wy1 H locs hP hS => ?_)
  have hP : va_P E.1 vwCl (refW E ρ th rc tl pa kd nm ((solvesF 7 st r).1) hi (layN st 0 ke 0 252) tx wy1) H := hP
  refine lv_pop hx hb dX6_cost_18 rfl ?_
  refine lv_aload_n hx hb dX6_cost_19 rfl (lv_lk hl rfl) ?_
  refine va_get (D := E.1) (ci := 6) hx hb hts inX6 hown hK.1 hP 0 rfl rfl 1 (by decide) (hts _ fl_X6_7) (fun _ h9 => h9) rfl dX6_cost_20 ?_
  refine iv_iconst hx hb dX6_cost_23 ?_
  refine iv_iald hx hb hK hP 1 rfl (2) (by omega) (by omega) dX6_cost_24 ?_
  refine lv_istore_n (lv' := [(2, .int (I _)), (0, .ref _), (1, .int (I _))]) hx hb dX6_cost_25 rfl hl (by decide) rfl (fun ls hl => ?_)
  refine lv_aload_n hx hb dX6_cost_26 rfl (lv_lk hl rfl) ?_
  refine va_get (D := E.1) (ci := 6) hx hb hts inX6 hown hK.1 hP 0 rfl rfl 4 (by decide) (hts _ fl_X6_16) (fun _ h9 => h9) rfl dX6_cost_27 ?_
  refine iv_iconst hx hb dX6_cost_30 ?_
  refine lv_aload_n hx hb dX6_cost_31 rfl (lv_lk hl rfl) ?_
  refine va_get (D := E.1) (ci := 6) hx hb hts inX6 hown hK.1 hP 0 rfl rfl 1 (by decide) (hts _ fl_X6_7) (fun _ h9 => h9) rfl dX6_cost_32 ?_
  refine iv_iconst hx hb dX6_cost_35 ?_
  refine call_W (va_runS ⟨hx, hb, hml, hown, hts⟩ (m_X6_lays l E (ρ 3) (ρ 1) 252 252 0 0 (layN st 0 ke 0 252) ((solvesF 7 st r).1) (fun h => absurd (hρ 3 1 (by decide) (by decide) h) (by decide)) (by omega) (by omega)) (va_cwS 4 hts (gi_S ml_X6_39 st_X6_lays it_X6 cd_X6_lays) rfl rfl rfl (by decide +kernel) ⟨Nat.le_of_ble_eq_true rfl, Nat.le_of_ble_eq_true rfl⟩) (pR_S (hP.sub (ws' := [(ρ 3, iA E 252 (layN st 0 ke 0 252)), (ρ 1, iA E 252 ((solvesF 7 st r).1))]) [3, 1] rfl) hK) rfl rfl hl.1 rfl (lv_room (Nat.le_of_ble_eq_true rfl)) dX6_cost_36 ⟨Nat.le_of_ble_eq_true rfl, Nat.le_of_ble_eq_true rfl⟩) hP (dm hD rfl) hS [3, 1] rfl (by decide) rfl (refW E ρ th rc tl pa kd nm (layN (layN st 0 ke 0 252) 0 ((solvesF 7 st r).1) 0 252) hi (layN st 0 ke 0 252) tx wy1) (rfl) rfl (fun H locs hP hS => ?_)
  have hP : va_P E.1 vwCl (refW E ρ th rc tl pa kd nm st hi (layN st 0 ke 0 252) tx wy1) H := ref_st (fun j hj => lay_back hj) hP
  refine lv_iload_n hx hb dX6_cost_39 rfl (lv_lk hl rfl) ?_
  refine lv_aload_n hx hb dX6_cost_40 rfl (lv_lk hl rfl) ?_
  refine va_get (D := E.1) (ci := 6) hx hb hts inX6 hown hK.1 hP 0 rfl rfl 1 (by decide) (hts _ fl_X6_7) (fun _ h9 => h9) rfl dX6_cost_41 ?_
  refine iv_iconst hx hb dX6_cost_44 ?_
  refine iv_iald hx hb hK hP 1 rfl (2) (by omega) (by omega) dX6_cost_45 ?_
  refine iv_isub hx hb dX6_cost_46 ?_
  exact W.iret hx hb hrt (fun t ht hW => ⟨rfl, ⟨(layN st 0 ke 0 252, wy1), by rw [ht]; exact hP⟩, hS.F ht⟩) hS.2.2 dX6_cost_47 hlocks
set_option maxHeartbeats 4000000 in
set_option maxRecDepth 100000 in
theorem m_X6_wouldIn (l : Launch) (E : Env3) (ρ : Nat → Nat) (th rc tl pa kd nm : Int) (st hi ke tx wy : S) (hρ : dR ρ 6) (T : Int) (hI : IB T st) (r : Nat) (hr : r < 36) (t : Int) (ht : 0 ≤ t ∧ t ≤ 100 ∧ T ≤ 99900) : Met l yX6_wouldIn (Cond.code yX6_wouldIn cX6_wouldIn 4 (some .int) :: ALL) ({ frames := 5, cells := 0, slots := 0, locals := 114 }) (pR [.ref (ρ 0), .int (I (r : Int)), .int (I t)] E (refW E ρ th rc tl pa kd nm st hi ke tx wy)) (qX (some (.int (I (wouldIn st r t)))) E (refW E ρ th rc tl pa kd nm st hi ke tx wy) (fun (g : S × S) => (refW E ρ th rc tl pa kd nm st hi g.1 tx g.2))) 0 0 (adIn (refW E ρ th rc tl pa kd nm st hi ke tx wy)) := by
  refine mk_met (by decide) rfl (Nat.le_of_ble_eq_true rfl) ?_
  intro p e s m args below meth c hx hb hrt hml hts hown hlocks hnm hP hK ls hl
  have hown : s.vm.findClass RX6 = some m.cls := hown
  have hl : lv_has ls 4 [(0, .ref (ρ 0)), (1, .int (I (r : Int))), (2, .int (I t))] := hl
  have hD : va_D (adIn (refW E ρ th rc tl pa kd nm st hi ke tx wy)) (refW E ρ th rc tl pa kd nm st hi ke tx wy) := D_of_dR hρ rfl
  have hS : va_S (adIn (refW E ρ th rc tl pa kd nm st hi ke tx wy)) s.heap s.heap [] := va_S.rf
  refine lv_aload_n hx hb dX6_wouldIn_0 rfl (lv_lk hl rfl) ?_
  refine va_get (D := E.1) (ci := 6) hx hb hts inX6 hown hK.1 hP 0 rfl rfl 1 (by decide) (hts _ fl_X6_7) (fun _ h9 => h9) rfl dX6_wouldIn_1 ?_
  refine iv_iconst hx hb dX6_wouldIn_4 ?_
  refine lv_aload_n hx hb dX6_wouldIn_5 rfl (lv_lk hl rfl) ?_
  refine va_get (D := E.1) (ci := 6) hx hb hts inX6 hown hK.1 hP 0 rfl rfl 4 (by decide) (hts _ fl_X6_16) (fun _ h9 => h9) rfl dX6_wouldIn_6 ?_
  refine iv_iconst hx hb dX6_wouldIn_9 ?_
  refine call_W (va_runS ⟨hx, hb, hml, hown, hts⟩ (m_X6_lays l E (ρ 1) (ρ 3) 252 252 0 0 st ke (fun h => absurd (hρ 1 3 (by decide) (by decide) h) (by decide)) (by omega) (by omega)) (va_cwS 4 hts (gi_S ml_X6_39 st_X6_lays it_X6 cd_X6_lays) rfl rfl rfl (by decide +kernel) ⟨Nat.le_of_ble_eq_true rfl, Nat.le_of_ble_eq_true rfl⟩) (pR_S (hP.sub (ws' := [(ρ 1, iA E 252 st), (ρ 3, iA E 252 ke)]) [1, 3] rfl) hK) rfl rfl hl.1 rfl (lv_room (Nat.le_of_ble_eq_true rfl)) dX6_wouldIn_10 ⟨Nat.le_of_ble_eq_true rfl, Nat.le_of_ble_eq_true rfl⟩) hP (dm hD rfl) hS [1, 3] rfl (by decide) rfl (refW E ρ th rc tl pa kd nm st hi (layN st 0 ke 0 252) tx wy) (rfl) rfl (fun H locs hP hS => ?_)
  refine lv_aload_n hx hb dX6_wouldIn_13 rfl (lv_lk hl rfl) ?_
  refine lv_iload_n hx hb dX6_wouldIn_14 rfl (lv_lk hl rfl) ?_
  refine call_F (va_runV ⟨hx, hb, hml, hown, hts⟩ (m_X6_passes l E ρ th rc tl pa kd nm st hi (layN st 0 ke 0 252) tx wy hρ T hI t ht) (cwV 1 hts (gi_V ml_X6_91 im_X6_passes sl_X6_passes it_X6 cd_X6_passes) rfl rfl rfl (by decide +kernel) ⟨Nat.le_of_ble_eq_true rfl, Nat.le_of_ble_eq_true rfl⟩) (pR_V (q0 := 0) (ci := 6) hP hK rfl rfl) rfl rfl hl.1 rfl (lv_room (Nat.le_of_ble_eq_true rfl)) dX6_wouldIn_15 ⟨Nat.le_of_ble_eq_true rfl, Nat.le_of_ble_eq_true rfl⟩) (dm hD rfl) hS rfl (fun H locs hP hS => ?_)
  have hP : va_P E.1 vwCl (refW E ρ th rc tl pa kd nm (passes st t) hi (layN st 0 ke 0 252) tx wy) H := hP
  refine lv_pop hx hb dX6_wouldIn_18 rfl ?_
  refine lv_aload_n hx hb dX6_wouldIn_19 rfl (lv_lk hl rfl) ?_
  refine lv_iload_n hx hb dX6_wouldIn_20 rfl (lv_lk hl rfl) ?_
  refine call_X (va_runV ⟨hx, hb, hml, hown, hts⟩ (m_X6_solves l E ρ th rc tl pa kd nm (passes st t) hi (layN st 0 ke 0 252) tx wy hρ (T + 100) (IB_passes hI t ht.1 _ (by omega)) r hr) (cwV 1 hts (gi_V ml_X6_81 im_X6_solves sl_X6_solves it_X6 cd_X6_solves) rfl rfl rfl (by decide +kernel) ⟨Nat.le_of_ble_eq_true rfl, Nat.le_of_ble_eq_true rfl⟩) (pR_V (q0 := 0) (ci := 6) hP hK rfl rfl) rfl rfl hl.1 rfl (lv_room (Nat.le_of_ble_eq_true rfl)) dX6_wouldIn_21 ⟨Nat.le_of_ble_eq_true rfl, Nat.le_of_ble_eq_true rfl⟩) (dm hD rfl) hS rfl (fun wy1 H locs hP hS => ?_)
  have hP : va_P E.1 vwCl (refW E ρ th rc tl pa kd nm ((solvesF 7 (passes st t) r).1) hi (layN st 0 ke 0 252) tx wy1) H := hP
  refine lv_istore_n (lv' := [(3, .int (I _)), (0, .ref _), (1, .int (I _)), (2, .int (I _))]) hx hb dX6_wouldIn_24 rfl hl (by decide) rfl (fun ls hl => ?_)
  refine lv_aload_n hx hb dX6_wouldIn_25 rfl (lv_lk hl rfl) ?_
  refine va_get (D := E.1) (ci := 6) hx hb hts inX6 hown hK.1 hP 0 rfl rfl 4 (by decide) (hts _ fl_X6_16) (fun _ h9 => h9) rfl dX6_wouldIn_26 ?_
  refine iv_iconst hx hb dX6_wouldIn_29 ?_
  refine lv_aload_n hx hb dX6_wouldIn_30 rfl (lv_lk hl rfl) ?_
  refine va_get (D := E.1) (ci := 6) hx hb hts inX6 hown hK.1 hP 0 rfl rfl 1 (by decide) (hts _ fl_X6_7) (fun _ h9 => h9) rfl dX6_wouldIn_31 ?_
  refine iv_iconst hx hb dX6_wouldIn_34 ?_
  refine call_W (va_runS ⟨hx, hb, hml, hown, hts⟩ (m_X6_lays l E (ρ 3) (ρ 1) 252 252 0 0 (layN st 0 ke 0 252) ((solvesF 7 (passes st t) r).1) (fun h => absurd (hρ 3 1 (by decide) (by decide) h) (by decide)) (by omega) (by omega)) (va_cwS 4 hts (gi_S ml_X6_39 st_X6_lays it_X6 cd_X6_lays) rfl rfl rfl (by decide +kernel) ⟨Nat.le_of_ble_eq_true rfl, Nat.le_of_ble_eq_true rfl⟩) (pR_S (hP.sub (ws' := [(ρ 3, iA E 252 (layN st 0 ke 0 252)), (ρ 1, iA E 252 ((solvesF 7 (passes st t) r).1))]) [3, 1] rfl) hK) rfl rfl hl.1 rfl (lv_room (Nat.le_of_ble_eq_true rfl)) dX6_wouldIn_35 ⟨Nat.le_of_ble_eq_true rfl, Nat.le_of_ble_eq_true rfl⟩) hP (dm hD rfl) hS [3, 1] rfl (by decide) rfl (refW E ρ th rc tl pa kd nm (layN (layN st 0 ke 0 252) 0 ((solvesF 7 (passes st t) r).1) 0 252) hi (layN st 0 ke 0 252) tx wy1) (rfl) rfl (fun H locs hP hS => ?_)
  have hP : va_P E.1 vwCl (refW E ρ th rc tl pa kd nm st hi (layN st 0 ke 0 252) tx wy1) H := ref_st (fun j hj => lay_back hj) hP
  refine lv_iload_n hx hb dX6_wouldIn_38 rfl (lv_lk hl rfl) ?_
  exact W.iret hx hb hrt (fun t ht hW => ⟨rfl, ⟨(layN st 0 ke 0 252, wy1), by rw [ht]; exact hP⟩, hS.F ht⟩) hS.2.2 dX6_wouldIn_39 hlocks
set_option maxHeartbeats 4000000 in
set_option maxRecDepth 100000 in
theorem m_X6_tellsZone_ok (l : Launch) (E : Env3) (ρ : Nat → Nat) (th rc tl pa kd nm : Int) (st hi ke tx wy : S) (hρ : dR ρ 6) (z k : Nat) (hz : z < 6) (hk : k < 5) : Met l yX6_tellsZone (Cond.code yX6_tellsZone cX6_tellsZone 3 (some .int) :: ALL) ({ frames := 2, cells := 0, slots := 0, locals := 42 }) (pR [.ref (ρ 0), .int (I (z : Int)), .int (I (k : Int))] E (refW E ρ th rc tl pa kd nm st hi ke tx wy)) (qW (some (.int (I (st (6 + 5 * z + k))))) E (refW E ρ th rc tl pa kd nm st hi ke tx wy) (refW E ρ 0 rc tl pa kd nm st hi ke tx wy)) 0 0 (adIn (refW E ρ th rc tl pa kd nm st hi ke tx wy)) := by
  refine mk_met (by decide) rfl (Nat.le_of_ble_eq_true rfl) ?_
  intro p e s m args below meth c hx hb hrt hml hts hown hlocks hnm hP hK ls hl
  have hown : s.vm.findClass RX6 = some m.cls := hown
  have hl : lv_has ls 3 [(0, .ref (ρ 0)), (1, .int (I (z : Int))), (2, .int (I (k : Int)))] := hl
  have hD : va_D (adIn (refW E ρ th rc tl pa kd nm st hi ke tx wy)) (refW E ρ th rc tl pa kd nm st hi ke tx wy) := D_of_dR hρ rfl
  have hS : va_S (adIn (refW E ρ th rc tl pa kd nm st hi ke tx wy)) s.heap s.heap [] := va_S.rf
  refine lv_aload_n hx hb dX6_tellsZone_0 rfl (lv_lk hl rfl) ?_
  refine lv_iload_n hx hb dX6_tellsZone_1 rfl (lv_lk hl rfl) ?_
  refine call_S (va_runS ⟨hx, hb, hml, hown, hts⟩ (m_X6_isZone l E ((z : Int)) (by omega)) (va_cwS 1 hts (gi_S ml_X6_54 st_X6_isZone it_X6 cd_X6_isZone) rfl rfl rfl (by decide +kernel) ⟨Nat.le_of_ble_eq_true rfl, Nat.le_of_ble_eq_true rfl⟩) (pR_S (hP.sub (ws' := []) [] rfl) hK) rfl rfl hl.1 rfl (lv_room (Nat.le_of_ble_eq_true rfl)) dX6_tellsZone_2 ⟨Nat.le_of_ble_eq_true rfl, Nat.le_of_ble_eq_true rfl⟩) (fun _ h => h) hS rfl (fun locs hS => ?_)
  refine iv_eq (1) (by rw [if_pos (by omega)]) ?_
  refine iv_if_eq (tgt := 12) hx hb dX6_tellsZone_5 (by decide) (by omega) (fun c_5 => by exfalso; omega) (fun c_5 => ?_)
  refine iv_iconst hx hb dX6_tellsZone_8 ?_
  refine lv_goto (tgt := 13) hx hb dX6_tellsZone_9 (by decide) ?_
  refine va_put (ci := 6) (ty := .int) hx hb hts inX6 tyX6 tyX6_ok nmX6 hown hK.1 hP (dm hD rfl) hS 0 rfl rfl 0 (by decide) (hts _ fl_X6_32) (fun _ h9 => h9) rfl (by decide +kernel) rfl rfl (Nat.le_of_ble_eq_true rfl) dX6_tellsZone_13 (fun H locs hP _ hS => ?_)
  have hP : va_P E.1 vwCl (refW E ρ 0 rc tl pa kd nm st hi ke tx wy) H := hP
  refine lv_aload_n hx hb dX6_tellsZone_16 rfl (lv_lk hl rfl) ?_
  refine va_get (D := E.1) (ci := 6) hx hb hts inX6 hown hK.1 hP 0 rfl rfl 0 (by decide) (hts _ fl_X6_32) (fun _ h9 => h9) rfl dX6_tellsZone_17 ?_
  refine iv_if_le (tgt := 27) hx hb dX6_tellsZone_20 (by decide) (by omega) (fun c_20 => ?_) (fun c_20 => by exfalso; omega)
  refine lv_aload_n hx hb dX6_tellsZone_27 rfl (lv_lk hl rfl) ?_
  refine lv_iload_n hx hb dX6_tellsZone_28 rfl (lv_lk hl rfl) ?_
  refine lv_iload_n hx hb dX6_tellsZone_29 rfl (lv_lk hl rfl) ?_
  refine call_S (va_runV ⟨hx, hb, hml, hown, hts⟩ (m_X6_ofZone l E ρ 0 rc tl pa kd nm st hi ke tx wy z k hz hk) (cwV 2 hts (gi_V ml_X6_50 im_X6_ofZone sl_X6_ofZone it_X6 cd_X6_ofZone) rfl rfl rfl (by decide +kernel) ⟨Nat.le_of_ble_eq_true rfl, Nat.le_of_ble_eq_true rfl⟩) (pR_V (q0 := 0) (ci := 6) hP hK rfl rfl) rfl rfl hl.1 rfl (lv_room (Nat.le_of_ble_eq_true rfl)) dX6_tellsZone_30 ⟨Nat.le_of_ble_eq_true rfl, Nat.le_of_ble_eq_true rfl⟩) (fun _ h => h) hS rfl (fun locs hS => ?_)
  exact W.iret hx hb hrt (fun t ht hW => ⟨rfl, by rw [ht]; exact hP, hS.F ht⟩) hS.2.2 dX6_tellsZone_33 hlocks
set_option maxHeartbeats 4000000 in
set_option maxRecDepth 100000 in
theorem m_X6_tellsZone_bad (l : Launch) (E : Env3) (ρ : Nat → Nat) (th rc tl pa kd nm : Int) (st hi ke tx wy : S) (hρ : dR ρ 6) (v : Int) (k : Nat) (hv : -2147483648 ≤ v ∧ v ≤ 2147483647) (hv2 : ¬ (0 ≤ v ∧ v ≤ 5)) : Met l yX6_tellsZone (Cond.code yX6_tellsZone cX6_tellsZone 3 (some .int) :: ALL) ({ frames := 2, cells := 0, slots := 0, locals := 42 }) (pR [.ref (ρ 0), .int (I v), .int (I (k : Int))] E (refW E ρ th rc tl pa kd nm st hi ke tx wy)) (qW (some (.int (I 0))) E (refW E ρ th rc tl pa kd nm st hi ke tx wy) (refW E ρ 1 rc tl pa kd nm st hi ke tx wy)) 0 0 (adIn (refW E ρ th rc tl pa kd nm st hi ke tx wy)) := by
  refine mk_met (by decide) rfl (Nat.le_of_ble_eq_true rfl) ?_
  intro p e s m args below meth c hx hb hrt hml hts hown hlocks hnm hP hK ls hl
  have hown : s.vm.findClass RX6 = some m.cls := hown
  have hl : lv_has ls 3 [(0, .ref (ρ 0)), (1, .int (I v)), (2, .int (I (k : Int)))] := hl
  have hD : va_D (adIn (refW E ρ th rc tl pa kd nm st hi ke tx wy)) (refW E ρ th rc tl pa kd nm st hi ke tx wy) := D_of_dR hρ rfl
  have hS : va_S (adIn (refW E ρ th rc tl pa kd nm st hi ke tx wy)) s.heap s.heap [] := va_S.rf
  refine lv_aload_n hx hb dX6_tellsZone_0 rfl (lv_lk hl rfl) ?_
  refine lv_iload_n hx hb dX6_tellsZone_1 rfl (lv_lk hl rfl) ?_
  refine call_S (va_runS ⟨hx, hb, hml, hown, hts⟩ (m_X6_isZone l E v (by omega)) (va_cwS 1 hts (gi_S ml_X6_54 st_X6_isZone it_X6 cd_X6_isZone) rfl rfl rfl (by decide +kernel) ⟨Nat.le_of_ble_eq_true rfl, Nat.le_of_ble_eq_true rfl⟩) (pR_S (hP.sub (ws' := []) [] rfl) hK) rfl rfl hl.1 rfl (lv_room (Nat.le_of_ble_eq_true rfl)) dX6_tellsZone_2 ⟨Nat.le_of_ble_eq_true rfl, Nat.le_of_ble_eq_true rfl⟩) (fun _ h => h) hS rfl (fun locs hS => ?_)
  refine iv_eq (0) (by rw [if_neg (by omega)]) ?_
  refine iv_if_eq (tgt := 12) hx hb dX6_tellsZone_5 (by decide) (by omega) (fun c_5 => ?_) (fun c_5 => by exfalso; omega)
  refine iv_iconst hx hb dX6_tellsZone_12 ?_
  refine va_put (ci := 6) (ty := .int) hx hb hts inX6 tyX6 tyX6_ok nmX6 hown hK.1 hP (dm hD rfl) hS 0 rfl rfl 0 (by decide) (hts _ fl_X6_32) (fun _ h9 => h9) rfl (by decide +kernel) rfl rfl (Nat.le_of_ble_eq_true rfl) dX6_tellsZone_13 (fun H locs hP _ hS => ?_)
  have hP : va_P E.1 vwCl (refW E ρ 1 rc tl pa kd nm st hi ke tx wy) H := hP
  refine lv_aload_n hx hb dX6_tellsZone_16 rfl (lv_lk hl rfl) ?_
  refine va_get (D := E.1) (ci := 6) hx hb hts inX6 hown hK.1 hP 0 rfl rfl 0 (by decide) (hts _ fl_X6_32) (fun _ h9 => h9) rfl dX6_tellsZone_17 ?_
  refine iv_if_le (tgt := 27) hx hb dX6_tellsZone_20 (by decide) (by omega) (fun c_20 => by exfalso; omega) (fun c_20 => ?_)
  refine iv_iconst hx hb dX6_tellsZone_23 ?_
  refine lv_goto (tgt := 33) hx hb dX6_tellsZone_24 (by decide) ?_
  exact W.iret hx hb hrt (fun t ht hW => ⟨rfl, by rw [ht]; exact hP, hS.F ht⟩) hS.2.2 dX6_tellsZone_33 hlocks
set_option maxHeartbeats 4000000 in
set_option maxRecDepth 100000 in
theorem m_X6_tellsRiddle_ok (l : Launch) (E : Env3) (ρ : Nat → Nat) (th rc tl pa kd nm : Int) (st hi ke tx wy : S) (hρ : dR ρ 6) (r k : Nat) (hr : r < 36) (hk : k < 6) : Met l yX6_tellsRiddle (Cond.code yX6_tellsRiddle cX6_tellsRiddle 3 (some .int) :: ALL) ({ frames := 2, cells := 0, slots := 0, locals := 42 }) (pR [.ref (ρ 0), .int (I (r : Int)), .int (I (k : Int))] E (refW E ρ th rc tl pa kd nm st hi ke tx wy)) (qW (some (.int (I (st (36 + 6 * r + k))))) E (refW E ρ th rc tl pa kd nm st hi ke tx wy) (refW E ρ 0 rc tl pa kd nm st hi ke tx wy)) 0 0 (adIn (refW E ρ th rc tl pa kd nm st hi ke tx wy)) := by
  refine mk_met (by decide) rfl (Nat.le_of_ble_eq_true rfl) ?_
  intro p e s m args below meth c hx hb hrt hml hts hown hlocks hnm hP hK ls hl
  have hown : s.vm.findClass RX6 = some m.cls := hown
  have hl : lv_has ls 3 [(0, .ref (ρ 0)), (1, .int (I (r : Int))), (2, .int (I (k : Int)))] := hl
  have hD : va_D (adIn (refW E ρ th rc tl pa kd nm st hi ke tx wy)) (refW E ρ th rc tl pa kd nm st hi ke tx wy) := D_of_dR hρ rfl
  have hS : va_S (adIn (refW E ρ th rc tl pa kd nm st hi ke tx wy)) s.heap s.heap [] := va_S.rf
  refine lv_aload_n hx hb dX6_tellsRiddle_0 rfl (lv_lk hl rfl) ?_
  refine lv_iload_n hx hb dX6_tellsRiddle_1 rfl (lv_lk hl rfl) ?_
  refine call_S (va_runS ⟨hx, hb, hml, hown, hts⟩ (m_X6_isRiddle l E ((r : Int)) (by omega)) (va_cwS 1 hts (gi_S ml_X6_64 st_X6_isRiddle it_X6 cd_X6_isRiddle) rfl rfl rfl (by decide +kernel) ⟨Nat.le_of_ble_eq_true rfl, Nat.le_of_ble_eq_true rfl⟩) (pR_S (hP.sub (ws' := []) [] rfl) hK) rfl rfl hl.1 rfl (lv_room (Nat.le_of_ble_eq_true rfl)) dX6_tellsRiddle_2 ⟨Nat.le_of_ble_eq_true rfl, Nat.le_of_ble_eq_true rfl⟩) (fun _ h => h) hS rfl (fun locs hS => ?_)
  refine iv_eq (1) (by rw [if_pos (by omega)]) ?_
  refine iv_if_eq (tgt := 12) hx hb dX6_tellsRiddle_5 (by decide) (by omega) (fun c_5 => by exfalso; omega) (fun c_5 => ?_)
  refine iv_iconst hx hb dX6_tellsRiddle_8 ?_
  refine lv_goto (tgt := 13) hx hb dX6_tellsRiddle_9 (by decide) ?_
  refine va_put (ci := 6) (ty := .int) hx hb hts inX6 tyX6 tyX6_ok nmX6 hown hK.1 hP (dm hD rfl) hS 0 rfl rfl 0 (by decide) (hts _ fl_X6_32) (fun _ h9 => h9) rfl (by decide +kernel) rfl rfl (Nat.le_of_ble_eq_true rfl) dX6_tellsRiddle_13 (fun H locs hP _ hS => ?_)
  have hP : va_P E.1 vwCl (refW E ρ 0 rc tl pa kd nm st hi ke tx wy) H := hP
  refine lv_aload_n hx hb dX6_tellsRiddle_16 rfl (lv_lk hl rfl) ?_
  refine va_get (D := E.1) (ci := 6) hx hb hts inX6 hown hK.1 hP 0 rfl rfl 0 (by decide) (hts _ fl_X6_32) (fun _ h9 => h9) rfl dX6_tellsRiddle_17 ?_
  refine iv_if_le (tgt := 27) hx hb dX6_tellsRiddle_20 (by decide) (by omega) (fun c_20 => ?_) (fun c_20 => by exfalso; omega)
  refine lv_aload_n hx hb dX6_tellsRiddle_27 rfl (lv_lk hl rfl) ?_
  refine lv_iload_n hx hb dX6_tellsRiddle_28 rfl (lv_lk hl rfl) ?_
  refine lv_iload_n hx hb dX6_tellsRiddle_29 rfl (lv_lk hl rfl) ?_
  refine call_S (va_runV ⟨hx, hb, hml, hown, hts⟩ (m_X6_of l E ρ 0 rc tl pa kd nm st hi ke tx wy r k hr hk) (cwV 2 hts (gi_V ml_X6_61 im_X6_of sl_X6_of it_X6 cd_X6_of) rfl rfl rfl (by decide +kernel) ⟨Nat.le_of_ble_eq_true rfl, Nat.le_of_ble_eq_true rfl⟩) (pR_V (q0 := 0) (ci := 6) hP hK rfl rfl) rfl rfl hl.1 rfl (lv_room (Nat.le_of_ble_eq_true rfl)) dX6_tellsRiddle_30 ⟨Nat.le_of_ble_eq_true rfl, Nat.le_of_ble_eq_true rfl⟩) (fun _ h => h) hS rfl (fun locs hS => ?_)
  exact W.iret hx hb hrt (fun t ht hW => ⟨rfl, by rw [ht]; exact hP, hS.F ht⟩) hS.2.2 dX6_tellsRiddle_33 hlocks
set_option maxHeartbeats 4000000 in
set_option maxRecDepth 100000 in
theorem m_X6_tellsRiddle_bad (l : Launch) (E : Env3) (ρ : Nat → Nat) (th rc tl pa kd nm : Int) (st hi ke tx wy : S) (hρ : dR ρ 6) (v : Int) (k : Nat) (hv : -2147483648 ≤ v ∧ v ≤ 2147483647) (hv2 : ¬ (0 ≤ v ∧ v ≤ 35)) : Met l yX6_tellsRiddle (Cond.code yX6_tellsRiddle cX6_tellsRiddle 3 (some .int) :: ALL) ({ frames := 2, cells := 0, slots := 0, locals := 42 }) (pR [.ref (ρ 0), .int (I v), .int (I (k : Int))] E (refW E ρ th rc tl pa kd nm st hi ke tx wy)) (qW (some (.int (I 0))) E (refW E ρ th rc tl pa kd nm st hi ke tx wy) (refW E ρ 1 rc tl pa kd nm st hi ke tx wy)) 0 0 (adIn (refW E ρ th rc tl pa kd nm st hi ke tx wy)) := by
  refine mk_met (by decide) rfl (Nat.le_of_ble_eq_true rfl) ?_
  intro p e s m args below meth c hx hb hrt hml hts hown hlocks hnm hP hK ls hl
  have hown : s.vm.findClass RX6 = some m.cls := hown
  have hl : lv_has ls 3 [(0, .ref (ρ 0)), (1, .int (I v)), (2, .int (I (k : Int)))] := hl
  have hD : va_D (adIn (refW E ρ th rc tl pa kd nm st hi ke tx wy)) (refW E ρ th rc tl pa kd nm st hi ke tx wy) := D_of_dR hρ rfl
  have hS : va_S (adIn (refW E ρ th rc tl pa kd nm st hi ke tx wy)) s.heap s.heap [] := va_S.rf
  refine lv_aload_n hx hb dX6_tellsRiddle_0 rfl (lv_lk hl rfl) ?_
  refine lv_iload_n hx hb dX6_tellsRiddle_1 rfl (lv_lk hl rfl) ?_
  refine call_S (va_runS ⟨hx, hb, hml, hown, hts⟩ (m_X6_isRiddle l E v (by omega)) (va_cwS 1 hts (gi_S ml_X6_64 st_X6_isRiddle it_X6 cd_X6_isRiddle) rfl rfl rfl (by decide +kernel) ⟨Nat.le_of_ble_eq_true rfl, Nat.le_of_ble_eq_true rfl⟩) (pR_S (hP.sub (ws' := []) [] rfl) hK) rfl rfl hl.1 rfl (lv_room (Nat.le_of_ble_eq_true rfl)) dX6_tellsRiddle_2 ⟨Nat.le_of_ble_eq_true rfl, Nat.le_of_ble_eq_true rfl⟩) (fun _ h => h) hS rfl (fun locs hS => ?_)
  refine iv_eq (0) (by rw [if_neg (by omega)]) ?_
  refine iv_if_eq (tgt := 12) hx hb dX6_tellsRiddle_5 (by decide) (by omega) (fun c_5 => ?_) (fun c_5 => by exfalso; omega)
  refine iv_iconst hx hb dX6_tellsRiddle_12 ?_
  refine va_put (ci := 6) (ty := .int) hx hb hts inX6 tyX6 tyX6_ok nmX6 hown hK.1 hP (dm hD rfl) hS 0 rfl rfl 0 (by decide) (hts _ fl_X6_32) (fun _ h9 => h9) rfl (by decide +kernel) rfl rfl (Nat.le_of_ble_eq_true rfl) dX6_tellsRiddle_13 (fun H locs hP _ hS => ?_)
  have hP : va_P E.1 vwCl (refW E ρ 1 rc tl pa kd nm st hi ke tx wy) H := hP
  refine lv_aload_n hx hb dX6_tellsRiddle_16 rfl (lv_lk hl rfl) ?_
  refine va_get (D := E.1) (ci := 6) hx hb hts inX6 hown hK.1 hP 0 rfl rfl 0 (by decide) (hts _ fl_X6_32) (fun _ h9 => h9) rfl dX6_tellsRiddle_17 ?_
  refine iv_if_le (tgt := 27) hx hb dX6_tellsRiddle_20 (by decide) (by omega) (fun c_20 => by exfalso; omega) (fun c_20 => ?_)
  refine iv_iconst hx hb dX6_tellsRiddle_23 ?_
  refine lv_goto (tgt := 33) hx hb dX6_tellsRiddle_24 (by decide) ?_
  exact W.iret hx hb hrt (fun t ht hW => ⟨rfl, by rw [ht]; exact hP, hS.F ht⟩) hS.2.2 dX6_tellsRiddle_33 hlocks
set_option maxHeartbeats 4000000 in
set_option maxRecDepth 100000 in
theorem m_X6_parentOf_ok (l : Launch) (E : Env3) (ρ : Nat → Nat) (th rc tl pa kd nm : Int) (st hi ke tx wy : S) (hρ : dR ρ 6) (z : Nat) (hz : z < 6) : Met l yX6_parentOf (Cond.code yX6_parentOf cX6_parentOf 2 (some .int) :: ALL) ({ frames := 3, cells := 0, slots := 0, locals := 64 }) (pR [.ref (ρ 0), .int (I (z : Int))] E (refW E ρ th rc tl pa kd nm st hi ke tx wy)) (qW (some (.int (I (st (6 + 5 * z + 0))))) E (refW E ρ th rc tl pa kd nm st hi ke tx wy) (refW E ρ 0 rc tl pa kd nm st hi ke tx wy)) 0 0 (adIn (refW E ρ th rc tl pa kd nm st hi ke tx wy)) := by
  refine mk_met (by decide) rfl (Nat.le_of_ble_eq_true rfl) ?_
  intro p e s m args below meth c hx hb hrt hml hts hown hlocks hnm hP hK ls hl
  have hown : s.vm.findClass RX6 = some m.cls := hown
  have hl : lv_has ls 2 [(0, .ref (ρ 0)), (1, .int (I (z : Int)))] := hl
  have hD : va_D (adIn (refW E ρ th rc tl pa kd nm st hi ke tx wy)) (refW E ρ th rc tl pa kd nm st hi ke tx wy) := D_of_dR hρ rfl
  have hS : va_S (adIn (refW E ρ th rc tl pa kd nm st hi ke tx wy)) s.heap s.heap [] := va_S.rf
  refine lv_aload_n hx hb dX6_parentOf_0 rfl (lv_lk hl rfl) ?_
  refine lv_iload_n hx hb dX6_parentOf_1 rfl (lv_lk hl rfl) ?_
  refine iv_iconst hx hb dX6_parentOf_2 ?_
  refine call_F (va_runV ⟨hx, hb, hml, hown, hts⟩ (m_X6_tellsZone_ok l E ρ th rc tl pa kd nm st hi ke tx wy hρ z 0 hz (by decide)) (cwV 2 hts (gi_V ml_X6_97 im_X6_tellsZone sl_X6_tellsZone it_X6 cd_X6_tellsZone) rfl rfl rfl (by decide +kernel) ⟨Nat.le_of_ble_eq_true rfl, Nat.le_of_ble_eq_true rfl⟩) (pR_V (q0 := 0) (ci := 6) hP hK rfl rfl) rfl rfl hl.1 rfl (lv_room (Nat.le_of_ble_eq_true rfl)) dX6_parentOf_3 ⟨Nat.le_of_ble_eq_true rfl, Nat.le_of_ble_eq_true rfl⟩) (dm hD rfl) hS rfl (fun H locs hP hS => ?_)
  have hP : va_P E.1 vwCl (refW E ρ 0 rc tl pa kd nm st hi ke tx wy) H := hP
  exact W.iret hx hb hrt (fun t ht hW => ⟨rfl, by rw [ht]; exact hP, hS.F ht⟩) hS.2.2 dX6_parentOf_6 hlocks
set_option maxHeartbeats 4000000 in
set_option maxRecDepth 100000 in
theorem m_X6_parentOf_bad (l : Launch) (E : Env3) (ρ : Nat → Nat) (th rc tl pa kd nm : Int) (st hi ke tx wy : S) (hρ : dR ρ 6) (v : Int) (hv : -2147483648 ≤ v ∧ v ≤ 2147483647) (hv2 : ¬ (0 ≤ v ∧ v ≤ 5)) : Met l yX6_parentOf (Cond.code yX6_parentOf cX6_parentOf 2 (some .int) :: ALL) ({ frames := 3, cells := 0, slots := 0, locals := 64 }) (pR [.ref (ρ 0), .int (I v)] E (refW E ρ th rc tl pa kd nm st hi ke tx wy)) (qW (some (.int (I 0))) E (refW E ρ th rc tl pa kd nm st hi ke tx wy) (refW E ρ 1 rc tl pa kd nm st hi ke tx wy)) 0 0 (adIn (refW E ρ th rc tl pa kd nm st hi ke tx wy)) := by
  refine mk_met (by decide) rfl (Nat.le_of_ble_eq_true rfl) ?_
  intro p e s m args below meth c hx hb hrt hml hts hown hlocks hnm hP hK ls hl
  have hown : s.vm.findClass RX6 = some m.cls := hown
  have hl : lv_has ls 2 [(0, .ref (ρ 0)), (1, .int (I v))] := hl
  have hD : va_D (adIn (refW E ρ th rc tl pa kd nm st hi ke tx wy)) (refW E ρ th rc tl pa kd nm st hi ke tx wy) := D_of_dR hρ rfl
  have hS : va_S (adIn (refW E ρ th rc tl pa kd nm st hi ke tx wy)) s.heap s.heap [] := va_S.rf
  refine lv_aload_n hx hb dX6_parentOf_0 rfl (lv_lk hl rfl) ?_
  refine lv_iload_n hx hb dX6_parentOf_1 rfl (lv_lk hl rfl) ?_
  refine iv_iconst hx hb dX6_parentOf_2 ?_
  refine call_F (va_runV ⟨hx, hb, hml, hown, hts⟩ (m_X6_tellsZone_bad l E ρ th rc tl pa kd nm st hi ke tx wy hρ v 0 hv hv2) (cwV 2 hts (gi_V ml_X6_97 im_X6_tellsZone sl_X6_tellsZone it_X6 cd_X6_tellsZone) rfl rfl rfl (by decide +kernel) ⟨Nat.le_of_ble_eq_true rfl, Nat.le_of_ble_eq_true rfl⟩) (pR_V (q0 := 0) (ci := 6) hP hK rfl rfl) rfl rfl hl.1 rfl (lv_room (Nat.le_of_ble_eq_true rfl)) dX6_parentOf_3 ⟨Nat.le_of_ble_eq_true rfl, Nat.le_of_ble_eq_true rfl⟩) (dm hD rfl) hS rfl (fun H locs hP hS => ?_)
  have hP : va_P E.1 vwCl (refW E ρ 1 rc tl pa kd nm st hi ke tx wy) H := hP
  exact W.iret hx hb hrt (fun t ht hW => ⟨rfl, by rw [ht]; exact hP, hS.F ht⟩) hS.2.2 dX6_parentOf_6 hlocks
set_option maxHeartbeats 4000000 in
set_option maxRecDepth 100000 in
theorem m_X6_questionsTo_ok (l : Launch) (E : Env3) (ρ : Nat → Nat) (th rc tl pa kd nm : Int) (st hi ke tx wy : S) (hρ : dR ρ 6) (z : Nat) (hz : z < 6) : Met l yX6_questionsTo (Cond.code yX6_questionsTo cX6_questionsTo 2 (some .int) :: ALL) ({ frames := 3, cells := 0, slots := 0, locals := 64 }) (pR [.ref (ρ 0), .int (I (z : Int))] E (refW E ρ th rc tl pa kd nm st hi ke tx wy)) (qW (some (.int (I (st (6 + 5 * z + 4))))) E (refW E ρ th rc tl pa kd nm st hi ke tx wy) (refW E ρ 0 rc tl pa kd nm st hi ke tx wy)) 0 0 (adIn (refW E ρ th rc tl pa kd nm st hi ke tx wy)) := by
  refine mk_met (by decide) rfl (Nat.le_of_ble_eq_true rfl) ?_
  intro p e s m args below meth c hx hb hrt hml hts hown hlocks hnm hP hK ls hl
  have hown : s.vm.findClass RX6 = some m.cls := hown
  have hl : lv_has ls 2 [(0, .ref (ρ 0)), (1, .int (I (z : Int)))] := hl
  have hD : va_D (adIn (refW E ρ th rc tl pa kd nm st hi ke tx wy)) (refW E ρ th rc tl pa kd nm st hi ke tx wy) := D_of_dR hρ rfl
  have hS : va_S (adIn (refW E ρ th rc tl pa kd nm st hi ke tx wy)) s.heap s.heap [] := va_S.rf
  refine lv_aload_n hx hb dX6_questionsTo_0 rfl (lv_lk hl rfl) ?_
  refine lv_iload_n hx hb dX6_questionsTo_1 rfl (lv_lk hl rfl) ?_
  refine iv_iconst hx hb dX6_questionsTo_2 ?_
  refine call_F (va_runV ⟨hx, hb, hml, hown, hts⟩ (m_X6_tellsZone_ok l E ρ th rc tl pa kd nm st hi ke tx wy hρ z 4 hz (by decide)) (cwV 2 hts (gi_V ml_X6_97 im_X6_tellsZone sl_X6_tellsZone it_X6 cd_X6_tellsZone) rfl rfl rfl (by decide +kernel) ⟨Nat.le_of_ble_eq_true rfl, Nat.le_of_ble_eq_true rfl⟩) (pR_V (q0 := 0) (ci := 6) hP hK rfl rfl) rfl rfl hl.1 rfl (lv_room (Nat.le_of_ble_eq_true rfl)) dX6_questionsTo_3 ⟨Nat.le_of_ble_eq_true rfl, Nat.le_of_ble_eq_true rfl⟩) (dm hD rfl) hS rfl (fun H locs hP hS => ?_)
  have hP : va_P E.1 vwCl (refW E ρ 0 rc tl pa kd nm st hi ke tx wy) H := hP
  exact W.iret hx hb hrt (fun t ht hW => ⟨rfl, by rw [ht]; exact hP, hS.F ht⟩) hS.2.2 dX6_questionsTo_6 hlocks
set_option maxHeartbeats 4000000 in
set_option maxRecDepth 100000 in
theorem m_X6_questionsTo_bad (l : Launch) (E : Env3) (ρ : Nat → Nat) (th rc tl pa kd nm : Int) (st hi ke tx wy : S) (hρ : dR ρ 6) (v : Int) (hv : -2147483648 ≤ v ∧ v ≤ 2147483647) (hv2 : ¬ (0 ≤ v ∧ v ≤ 5)) : Met l yX6_questionsTo (Cond.code yX6_questionsTo cX6_questionsTo 2 (some .int) :: ALL) ({ frames := 3, cells := 0, slots := 0, locals := 64 }) (pR [.ref (ρ 0), .int (I v)] E (refW E ρ th rc tl pa kd nm st hi ke tx wy)) (qW (some (.int (I 0))) E (refW E ρ th rc tl pa kd nm st hi ke tx wy) (refW E ρ 1 rc tl pa kd nm st hi ke tx wy)) 0 0 (adIn (refW E ρ th rc tl pa kd nm st hi ke tx wy)) := by
  refine mk_met (by decide) rfl (Nat.le_of_ble_eq_true rfl) ?_
  intro p e s m args below meth c hx hb hrt hml hts hown hlocks hnm hP hK ls hl
  have hown : s.vm.findClass RX6 = some m.cls := hown
  have hl : lv_has ls 2 [(0, .ref (ρ 0)), (1, .int (I v))] := hl
  have hD : va_D (adIn (refW E ρ th rc tl pa kd nm st hi ke tx wy)) (refW E ρ th rc tl pa kd nm st hi ke tx wy) := D_of_dR hρ rfl
  have hS : va_S (adIn (refW E ρ th rc tl pa kd nm st hi ke tx wy)) s.heap s.heap [] := va_S.rf
  refine lv_aload_n hx hb dX6_questionsTo_0 rfl (lv_lk hl rfl) ?_
  refine lv_iload_n hx hb dX6_questionsTo_1 rfl (lv_lk hl rfl) ?_
  refine iv_iconst hx hb dX6_questionsTo_2 ?_
  refine call_F (va_runV ⟨hx, hb, hml, hown, hts⟩ (m_X6_tellsZone_bad l E ρ th rc tl pa kd nm st hi ke tx wy hρ v 4 hv hv2) (cwV 2 hts (gi_V ml_X6_97 im_X6_tellsZone sl_X6_tellsZone it_X6 cd_X6_tellsZone) rfl rfl rfl (by decide +kernel) ⟨Nat.le_of_ble_eq_true rfl, Nat.le_of_ble_eq_true rfl⟩) (pR_V (q0 := 0) (ci := 6) hP hK rfl rfl) rfl rfl hl.1 rfl (lv_room (Nat.le_of_ble_eq_true rfl)) dX6_questionsTo_3 ⟨Nat.le_of_ble_eq_true rfl, Nat.le_of_ble_eq_true rfl⟩) (dm hD rfl) hS rfl (fun H locs hP hS => ?_)
  have hP : va_P E.1 vwCl (refW E ρ 1 rc tl pa kd nm st hi ke tx wy) H := hP
  exact W.iret hx hb hrt (fun t ht hW => ⟨rfl, by rw [ht]; exact hP, hS.F ht⟩) hS.2.2 dX6_questionsTo_6 hlocks
set_option maxHeartbeats 4000000 in
set_option maxRecDepth 100000 in
theorem m_X6_kindOf_ok (l : Launch) (E : Env3) (ρ : Nat → Nat) (th rc tl pa kd nm : Int) (st hi ke tx wy : S) (hρ : dR ρ 6) (r : Nat) (hr : r < 36) : Met l yX6_kindOf (Cond.code yX6_kindOf cX6_kindOf 2 (some .int) :: ALL) ({ frames := 3, cells := 0, slots := 0, locals := 64 }) (pR [.ref (ρ 0), .int (I (r : Int))] E (refW E ρ th rc tl pa kd nm st hi ke tx wy)) (qW (some (.int (I (st (36 + 6 * r + 0))))) E (refW E ρ th rc tl pa kd nm st hi ke tx wy) (refW E ρ 0 rc tl pa kd nm st hi ke tx wy)) 0 0 (adIn (refW E ρ th rc tl pa kd nm st hi ke tx wy)) := by
  refine mk_met (by decide) rfl (Nat.le_of_ble_eq_true rfl) ?_
  intro p e s m args below meth c hx hb hrt hml hts hown hlocks hnm hP hK ls hl
  have hown : s.vm.findClass RX6 = some m.cls := hown
  have hl : lv_has ls 2 [(0, .ref (ρ 0)), (1, .int (I (r : Int)))] := hl
  have hD : va_D (adIn (refW E ρ th rc tl pa kd nm st hi ke tx wy)) (refW E ρ th rc tl pa kd nm st hi ke tx wy) := D_of_dR hρ rfl
  have hS : va_S (adIn (refW E ρ th rc tl pa kd nm st hi ke tx wy)) s.heap s.heap [] := va_S.rf
  refine lv_aload_n hx hb dX6_kindOf_0 rfl (lv_lk hl rfl) ?_
  refine lv_iload_n hx hb dX6_kindOf_1 rfl (lv_lk hl rfl) ?_
  refine iv_iconst hx hb dX6_kindOf_2 ?_
  refine call_F (va_runV ⟨hx, hb, hml, hown, hts⟩ (m_X6_tellsRiddle_ok l E ρ th rc tl pa kd nm st hi ke tx wy hρ r 0 hr (by decide)) (cwV 2 hts (gi_V ml_X6_103 im_X6_tellsRiddle sl_X6_tellsRiddle it_X6 cd_X6_tellsRiddle) rfl rfl rfl (by decide +kernel) ⟨Nat.le_of_ble_eq_true rfl, Nat.le_of_ble_eq_true rfl⟩) (pR_V (q0 := 0) (ci := 6) hP hK rfl rfl) rfl rfl hl.1 rfl (lv_room (Nat.le_of_ble_eq_true rfl)) dX6_kindOf_3 ⟨Nat.le_of_ble_eq_true rfl, Nat.le_of_ble_eq_true rfl⟩) (dm hD rfl) hS rfl (fun H locs hP hS => ?_)
  have hP : va_P E.1 vwCl (refW E ρ 0 rc tl pa kd nm st hi ke tx wy) H := hP
  exact W.iret hx hb hrt (fun t ht hW => ⟨rfl, by rw [ht]; exact hP, hS.F ht⟩) hS.2.2 dX6_kindOf_6 hlocks
set_option maxHeartbeats 4000000 in
set_option maxRecDepth 100000 in
theorem m_X6_kindOf_bad (l : Launch) (E : Env3) (ρ : Nat → Nat) (th rc tl pa kd nm : Int) (st hi ke tx wy : S) (hρ : dR ρ 6) (v : Int) (hv : -2147483648 ≤ v ∧ v ≤ 2147483647) (hv2 : ¬ (0 ≤ v ∧ v ≤ 35)) : Met l yX6_kindOf (Cond.code yX6_kindOf cX6_kindOf 2 (some .int) :: ALL) ({ frames := 3, cells := 0, slots := 0, locals := 64 }) (pR [.ref (ρ 0), .int (I v)] E (refW E ρ th rc tl pa kd nm st hi ke tx wy)) (qW (some (.int (I 0))) E (refW E ρ th rc tl pa kd nm st hi ke tx wy) (refW E ρ 1 rc tl pa kd nm st hi ke tx wy)) 0 0 (adIn (refW E ρ th rc tl pa kd nm st hi ke tx wy)) := by
  refine mk_met (by decide) rfl (Nat.le_of_ble_eq_true rfl) ?_
  intro p e s m args below meth c hx hb hrt hml hts hown hlocks hnm hP hK ls hl
  have hown : s.vm.findClass RX6 = some m.cls := hown
  have hl : lv_has ls 2 [(0, .ref (ρ 0)), (1, .int (I v))] := hl
  have hD : va_D (adIn (refW E ρ th rc tl pa kd nm st hi ke tx wy)) (refW E ρ th rc tl pa kd nm st hi ke tx wy) := D_of_dR hρ rfl
  have hS : va_S (adIn (refW E ρ th rc tl pa kd nm st hi ke tx wy)) s.heap s.heap [] := va_S.rf
  refine lv_aload_n hx hb dX6_kindOf_0 rfl (lv_lk hl rfl) ?_
  refine lv_iload_n hx hb dX6_kindOf_1 rfl (lv_lk hl rfl) ?_
  refine iv_iconst hx hb dX6_kindOf_2 ?_
  refine call_F (va_runV ⟨hx, hb, hml, hown, hts⟩ (m_X6_tellsRiddle_bad l E ρ th rc tl pa kd nm st hi ke tx wy hρ v 0 hv hv2) (cwV 2 hts (gi_V ml_X6_103 im_X6_tellsRiddle sl_X6_tellsRiddle it_X6 cd_X6_tellsRiddle) rfl rfl rfl (by decide +kernel) ⟨Nat.le_of_ble_eq_true rfl, Nat.le_of_ble_eq_true rfl⟩) (pR_V (q0 := 0) (ci := 6) hP hK rfl rfl) rfl rfl hl.1 rfl (lv_room (Nat.le_of_ble_eq_true rfl)) dX6_kindOf_3 ⟨Nat.le_of_ble_eq_true rfl, Nat.le_of_ble_eq_true rfl⟩) (dm hD rfl) hS rfl (fun H locs hP hS => ?_)
  have hP : va_P E.1 vwCl (refW E ρ 1 rc tl pa kd nm st hi ke tx wy) H := hP
  exact W.iret hx hb hrt (fun t ht hW => ⟨rfl, by rw [ht]; exact hP, hS.F ht⟩) hS.2.2 dX6_kindOf_6 hlocks
set_option maxHeartbeats 4000000 in
set_option maxRecDepth 100000 in
theorem m_X6_valueOf_ok (l : Launch) (E : Env3) (ρ : Nat → Nat) (th rc tl pa kd nm : Int) (st hi ke tx wy : S) (hρ : dR ρ 6) (r : Nat) (hr : r < 36) : Met l yX6_valueOf (Cond.code yX6_valueOf cX6_valueOf 2 (some .int) :: ALL) ({ frames := 3, cells := 0, slots := 0, locals := 64 }) (pR [.ref (ρ 0), .int (I (r : Int))] E (refW E ρ th rc tl pa kd nm st hi ke tx wy)) (qW (some (.int (I (st (36 + 6 * r + 1))))) E (refW E ρ th rc tl pa kd nm st hi ke tx wy) (refW E ρ 0 rc tl pa kd nm st hi ke tx wy)) 0 0 (adIn (refW E ρ th rc tl pa kd nm st hi ke tx wy)) := by
  refine mk_met (by decide) rfl (Nat.le_of_ble_eq_true rfl) ?_
  intro p e s m args below meth c hx hb hrt hml hts hown hlocks hnm hP hK ls hl
  have hown : s.vm.findClass RX6 = some m.cls := hown
  have hl : lv_has ls 2 [(0, .ref (ρ 0)), (1, .int (I (r : Int)))] := hl
  have hD : va_D (adIn (refW E ρ th rc tl pa kd nm st hi ke tx wy)) (refW E ρ th rc tl pa kd nm st hi ke tx wy) := D_of_dR hρ rfl
  have hS : va_S (adIn (refW E ρ th rc tl pa kd nm st hi ke tx wy)) s.heap s.heap [] := va_S.rf
  refine lv_aload_n hx hb dX6_valueOf_0 rfl (lv_lk hl rfl) ?_
  refine lv_iload_n hx hb dX6_valueOf_1 rfl (lv_lk hl rfl) ?_
  refine iv_iconst hx hb dX6_valueOf_2 ?_
  refine call_F (va_runV ⟨hx, hb, hml, hown, hts⟩ (m_X6_tellsRiddle_ok l E ρ th rc tl pa kd nm st hi ke tx wy hρ r 1 hr (by decide)) (cwV 2 hts (gi_V ml_X6_103 im_X6_tellsRiddle sl_X6_tellsRiddle it_X6 cd_X6_tellsRiddle) rfl rfl rfl (by decide +kernel) ⟨Nat.le_of_ble_eq_true rfl, Nat.le_of_ble_eq_true rfl⟩) (pR_V (q0 := 0) (ci := 6) hP hK rfl rfl) rfl rfl hl.1 rfl (lv_room (Nat.le_of_ble_eq_true rfl)) dX6_valueOf_3 ⟨Nat.le_of_ble_eq_true rfl, Nat.le_of_ble_eq_true rfl⟩) (dm hD rfl) hS rfl (fun H locs hP hS => ?_)
  have hP : va_P E.1 vwCl (refW E ρ 0 rc tl pa kd nm st hi ke tx wy) H := hP
  exact W.iret hx hb hrt (fun t ht hW => ⟨rfl, by rw [ht]; exact hP, hS.F ht⟩) hS.2.2 dX6_valueOf_6 hlocks
set_option maxHeartbeats 4000000 in
set_option maxRecDepth 100000 in
theorem m_X6_valueOf_bad (l : Launch) (E : Env3) (ρ : Nat → Nat) (th rc tl pa kd nm : Int) (st hi ke tx wy : S) (hρ : dR ρ 6) (v : Int) (hv : -2147483648 ≤ v ∧ v ≤ 2147483647) (hv2 : ¬ (0 ≤ v ∧ v ≤ 35)) : Met l yX6_valueOf (Cond.code yX6_valueOf cX6_valueOf 2 (some .int) :: ALL) ({ frames := 3, cells := 0, slots := 0, locals := 64 }) (pR [.ref (ρ 0), .int (I v)] E (refW E ρ th rc tl pa kd nm st hi ke tx wy)) (qW (some (.int (I 0))) E (refW E ρ th rc tl pa kd nm st hi ke tx wy) (refW E ρ 1 rc tl pa kd nm st hi ke tx wy)) 0 0 (adIn (refW E ρ th rc tl pa kd nm st hi ke tx wy)) := by
  refine mk_met (by decide) rfl (Nat.le_of_ble_eq_true rfl) ?_
  intro p e s m args below meth c hx hb hrt hml hts hown hlocks hnm hP hK ls hl
  have hown : s.vm.findClass RX6 = some m.cls := hown
  have hl : lv_has ls 2 [(0, .ref (ρ 0)), (1, .int (I v))] := hl
  have hD : va_D (adIn (refW E ρ th rc tl pa kd nm st hi ke tx wy)) (refW E ρ th rc tl pa kd nm st hi ke tx wy) := D_of_dR hρ rfl
  have hS : va_S (adIn (refW E ρ th rc tl pa kd nm st hi ke tx wy)) s.heap s.heap [] := va_S.rf
  refine lv_aload_n hx hb dX6_valueOf_0 rfl (lv_lk hl rfl) ?_
  refine lv_iload_n hx hb dX6_valueOf_1 rfl (lv_lk hl rfl) ?_
  refine iv_iconst hx hb dX6_valueOf_2 ?_
  refine call_F (va_runV ⟨hx, hb, hml, hown, hts⟩ (m_X6_tellsRiddle_bad l E ρ th rc tl pa kd nm st hi ke tx wy hρ v 1 hv hv2) (cwV 2 hts (gi_V ml_X6_103 im_X6_tellsRiddle sl_X6_tellsRiddle it_X6 cd_X6_tellsRiddle) rfl rfl rfl (by decide +kernel) ⟨Nat.le_of_ble_eq_true rfl, Nat.le_of_ble_eq_true rfl⟩) (pR_V (q0 := 0) (ci := 6) hP hK rfl rfl) rfl rfl hl.1 rfl (lv_room (Nat.le_of_ble_eq_true rfl)) dX6_valueOf_3 ⟨Nat.le_of_ble_eq_true rfl, Nat.le_of_ble_eq_true rfl⟩) (dm hD rfl) hS rfl (fun H locs hP hS => ?_)
  have hP : va_P E.1 vwCl (refW E ρ 1 rc tl pa kd nm st hi ke tx wy) H := hP
  exact W.iret hx hb hrt (fun t ht hW => ⟨rfl, by rw [ht]; exact hP, hS.F ht⟩) hS.2.2 dX6_valueOf_6 hlocks
set_option maxHeartbeats 4000000 in
set_option maxRecDepth 100000 in
theorem m_X6_rememberedOf_ok (l : Launch) (E : Env3) (ρ : Nat → Nat) (th rc tl pa kd nm : Int) (st hi ke tx wy : S) (hρ : dR ρ 6) (r : Nat) (hr : r < 36) : Met l yX6_rememberedOf (Cond.code yX6_rememberedOf cX6_rememberedOf 2 (some .int) :: ALL) ({ frames := 3, cells := 0, slots := 0, locals := 64 }) (pR [.ref (ρ 0), .int (I (r : Int))] E (refW E ρ th rc tl pa kd nm st hi ke tx wy)) (qW (some (.int (I (st (36 + 6 * r + 3))))) E (refW E ρ th rc tl pa kd nm st hi ke tx wy) (refW E ρ 0 rc tl pa kd nm st hi ke tx wy)) 0 0 (adIn (refW E ρ th rc tl pa kd nm st hi ke tx wy)) := by
  refine mk_met (by decide) rfl (Nat.le_of_ble_eq_true rfl) ?_
  intro p e s m args below meth c hx hb hrt hml hts hown hlocks hnm hP hK ls hl
  have hown : s.vm.findClass RX6 = some m.cls := hown
  have hl : lv_has ls 2 [(0, .ref (ρ 0)), (1, .int (I (r : Int)))] := hl
  have hD : va_D (adIn (refW E ρ th rc tl pa kd nm st hi ke tx wy)) (refW E ρ th rc tl pa kd nm st hi ke tx wy) := D_of_dR hρ rfl
  have hS : va_S (adIn (refW E ρ th rc tl pa kd nm st hi ke tx wy)) s.heap s.heap [] := va_S.rf
  refine lv_aload_n hx hb dX6_rememberedOf_0 rfl (lv_lk hl rfl) ?_
  refine lv_iload_n hx hb dX6_rememberedOf_1 rfl (lv_lk hl rfl) ?_
  refine iv_iconst hx hb dX6_rememberedOf_2 ?_
  refine call_F (va_runV ⟨hx, hb, hml, hown, hts⟩ (m_X6_tellsRiddle_ok l E ρ th rc tl pa kd nm st hi ke tx wy hρ r 3 hr (by decide)) (cwV 2 hts (gi_V ml_X6_103 im_X6_tellsRiddle sl_X6_tellsRiddle it_X6 cd_X6_tellsRiddle) rfl rfl rfl (by decide +kernel) ⟨Nat.le_of_ble_eq_true rfl, Nat.le_of_ble_eq_true rfl⟩) (pR_V (q0 := 0) (ci := 6) hP hK rfl rfl) rfl rfl hl.1 rfl (lv_room (Nat.le_of_ble_eq_true rfl)) dX6_rememberedOf_3 ⟨Nat.le_of_ble_eq_true rfl, Nat.le_of_ble_eq_true rfl⟩) (dm hD rfl) hS rfl (fun H locs hP hS => ?_)
  have hP : va_P E.1 vwCl (refW E ρ 0 rc tl pa kd nm st hi ke tx wy) H := hP
  exact W.iret hx hb hrt (fun t ht hW => ⟨rfl, by rw [ht]; exact hP, hS.F ht⟩) hS.2.2 dX6_rememberedOf_6 hlocks
set_option maxHeartbeats 4000000 in
set_option maxRecDepth 100000 in
theorem m_X6_rememberedOf_bad (l : Launch) (E : Env3) (ρ : Nat → Nat) (th rc tl pa kd nm : Int) (st hi ke tx wy : S) (hρ : dR ρ 6) (v : Int) (hv : -2147483648 ≤ v ∧ v ≤ 2147483647) (hv2 : ¬ (0 ≤ v ∧ v ≤ 35)) : Met l yX6_rememberedOf (Cond.code yX6_rememberedOf cX6_rememberedOf 2 (some .int) :: ALL) ({ frames := 3, cells := 0, slots := 0, locals := 64 }) (pR [.ref (ρ 0), .int (I v)] E (refW E ρ th rc tl pa kd nm st hi ke tx wy)) (qW (some (.int (I 0))) E (refW E ρ th rc tl pa kd nm st hi ke tx wy) (refW E ρ 1 rc tl pa kd nm st hi ke tx wy)) 0 0 (adIn (refW E ρ th rc tl pa kd nm st hi ke tx wy)) := by
  refine mk_met (by decide) rfl (Nat.le_of_ble_eq_true rfl) ?_
  intro p e s m args below meth c hx hb hrt hml hts hown hlocks hnm hP hK ls hl
  have hown : s.vm.findClass RX6 = some m.cls := hown
  have hl : lv_has ls 2 [(0, .ref (ρ 0)), (1, .int (I v))] := hl
  have hD : va_D (adIn (refW E ρ th rc tl pa kd nm st hi ke tx wy)) (refW E ρ th rc tl pa kd nm st hi ke tx wy) := D_of_dR hρ rfl
  have hS : va_S (adIn (refW E ρ th rc tl pa kd nm st hi ke tx wy)) s.heap s.heap [] := va_S.rf
  refine lv_aload_n hx hb dX6_rememberedOf_0 rfl (lv_lk hl rfl) ?_
  refine lv_iload_n hx hb dX6_rememberedOf_1 rfl (lv_lk hl rfl) ?_
  refine iv_iconst hx hb dX6_rememberedOf_2 ?_
  refine call_F (va_runV ⟨hx, hb, hml, hown, hts⟩ (m_X6_tellsRiddle_bad l E ρ th rc tl pa kd nm st hi ke tx wy hρ v 3 hv hv2) (cwV 2 hts (gi_V ml_X6_103 im_X6_tellsRiddle sl_X6_tellsRiddle it_X6 cd_X6_tellsRiddle) rfl rfl rfl (by decide +kernel) ⟨Nat.le_of_ble_eq_true rfl, Nat.le_of_ble_eq_true rfl⟩) (pR_V (q0 := 0) (ci := 6) hP hK rfl rfl) rfl rfl hl.1 rfl (lv_room (Nat.le_of_ble_eq_true rfl)) dX6_rememberedOf_3 ⟨Nat.le_of_ble_eq_true rfl, Nat.le_of_ble_eq_true rfl⟩) (dm hD rfl) hS rfl (fun H locs hP hS => ?_)
  have hP : va_P E.1 vwCl (refW E ρ 1 rc tl pa kd nm st hi ke tx wy) H := hP
  exact W.iret hx hb hrt (fun t ht hW => ⟨rfl, by rw [ht]; exact hP, hS.F ht⟩) hS.2.2 dX6_rememberedOf_6 hlocks
set_option maxHeartbeats 4000000 in
set_option maxRecDepth 100000 in
theorem m_X6_depthOf_ok (l : Launch) (E : Env3) (ρ : Nat → Nat) (th rc tl pa kd nm : Int) (st hi ke tx wy : S) (hρ : dR ρ 6) (T : Int) (hI : IB T st) (z : Nat) (hz : z < 6) : Met l yX6_depthOf (Cond.code yX6_depthOf cX6_depthOf 2 (some .int) :: ALL) ({ frames := 2, cells := 0, slots := 0, locals := 45 }) (pR [.ref (ρ 0), .int (I (z : Int))] E (refW E ρ th rc tl pa kd nm st hi ke tx wy)) (qW (some (.int (I (depthF 6 st z)))) E (refW E ρ th rc tl pa kd nm st hi ke tx wy) (refW E ρ 0 rc tl pa kd nm st hi ke tx wy)) 0 0 (adIn (refW E ρ th rc tl pa kd nm st hi ke tx wy)) := by
  refine mk_met (by decide) rfl (Nat.le_of_ble_eq_true rfl) ?_
  intro p e s m args below meth c hx hb hrt hml hts hown hlocks hnm hP hK ls hl
  have hown : s.vm.findClass RX6 = some m.cls := hown
  have hl : lv_has ls 2 [(0, .ref (ρ 0)), (1, .int (I (z : Int)))] := hl
  have hD : va_D (adIn (refW E ρ th rc tl pa kd nm st hi ke tx wy)) (refW E ρ th rc tl pa kd nm st hi ke tx wy) := D_of_dR hρ rfl
  have hS : va_S (adIn (refW E ρ th rc tl pa kd nm st hi ke tx wy)) s.heap s.heap [] := va_S.rf
  refine lv_aload_n hx hb dX6_depthOf_0 rfl (lv_lk hl rfl) ?_
  refine lv_iload_n hx hb dX6_depthOf_1 rfl (lv_lk hl rfl) ?_
  refine call_S (va_runS ⟨hx, hb, hml, hown, hts⟩ (m_X6_isZone l E ((z : Int)) (by omega)) (va_cwS 1 hts (gi_S ml_X6_54 st_X6_isZone it_X6 cd_X6_isZone) rfl rfl rfl (by decide +kernel) ⟨Nat.le_of_ble_eq_true rfl, Nat.le_of_ble_eq_true rfl⟩) (pR_S (hP.sub (ws' := []) [] rfl) hK) rfl rfl hl.1 rfl (lv_room (Nat.le_of_ble_eq_true rfl)) dX6_depthOf_2 ⟨Nat.le_of_ble_eq_true rfl, Nat.le_of_ble_eq_true rfl⟩) (fun _ h => h) hS rfl (fun locs hS => ?_)
  refine iv_eq (1) (by rw [if_pos (by omega)]) ?_
  refine iv_if_eq (tgt := 12) hx hb dX6_depthOf_5 (by decide) (by omega) (fun c_5 => by exfalso; omega) (fun c_5 => ?_)
  refine iv_iconst hx hb dX6_depthOf_8 ?_
  refine lv_goto (tgt := 13) hx hb dX6_depthOf_9 (by decide) ?_
  refine va_put (ci := 6) (ty := .int) hx hb hts inX6 tyX6 tyX6_ok nmX6 hown hK.1 hP (dm hD rfl) hS 0 rfl rfl 0 (by decide) (hts _ fl_X6_32) (fun _ h9 => h9) rfl (by decide +kernel) rfl rfl (Nat.le_of_ble_eq_true rfl) dX6_depthOf_13 (fun H locs hP _ hS => ?_)
  have hP : va_P E.1 vwCl (refW E ρ 0 rc tl pa kd nm st hi ke tx wy) H := hP
  refine lv_aload_n hx hb dX6_depthOf_16 rfl (lv_lk hl rfl) ?_
  refine va_get (D := E.1) (ci := 6) hx hb hts inX6 hown hK.1 hP 0 rfl rfl 0 (by decide) (hts _ fl_X6_32) (fun _ h9 => h9) rfl dX6_depthOf_17 ?_
  refine iv_if_le (tgt := 27) hx hb dX6_depthOf_20 (by decide) (by omega) (fun c_20 => ?_) (fun c_20 => by exfalso; omega)
  refine lv_aload_n hx hb dX6_depthOf_27 rfl (lv_lk hl rfl) ?_
  refine lv_iload_n hx hb dX6_depthOf_28 rfl (lv_lk hl rfl) ?_
  refine call_S (va_runV ⟨hx, hb, hml, hown, hts⟩ (m_X6_depth l E ρ 0 rc tl pa kd nm st hi ke tx wy T hI z hz) (cwV 1 hts (gi_V ml_X6_100 im_X6_depth sl_X6_depth it_X6 cd_X6_depth) rfl rfl rfl (by decide +kernel) ⟨Nat.le_of_ble_eq_true rfl, Nat.le_of_ble_eq_true rfl⟩) (pR_V (q0 := 0) (ci := 6) hP hK rfl rfl) rfl rfl hl.1 rfl (lv_room (Nat.le_of_ble_eq_true rfl)) dX6_depthOf_29 ⟨Nat.le_of_ble_eq_true rfl, Nat.le_of_ble_eq_true rfl⟩) (fun _ h => h) hS rfl (fun locs hS => ?_)
  exact W.iret hx hb hrt (fun t ht hW => ⟨rfl, by rw [ht]; exact hP, hS.F ht⟩) hS.2.2 dX6_depthOf_32 hlocks
set_option maxHeartbeats 4000000 in
set_option maxRecDepth 100000 in
theorem m_X6_depthOf_bad (l : Launch) (E : Env3) (ρ : Nat → Nat) (th rc tl pa kd nm : Int) (st hi ke tx wy : S) (hρ : dR ρ 6) (v : Int) (hv : -2147483648 ≤ v ∧ v ≤ 2147483647) (hv2 : ¬ (0 ≤ v ∧ v ≤ 5)) : Met l yX6_depthOf (Cond.code yX6_depthOf cX6_depthOf 2 (some .int) :: ALL) ({ frames := 2, cells := 0, slots := 0, locals := 45 }) (pR [.ref (ρ 0), .int (I v)] E (refW E ρ th rc tl pa kd nm st hi ke tx wy)) (qW (some (.int (I 0))) E (refW E ρ th rc tl pa kd nm st hi ke tx wy) (refW E ρ 1 rc tl pa kd nm st hi ke tx wy)) 0 0 (adIn (refW E ρ th rc tl pa kd nm st hi ke tx wy)) := by
  refine mk_met (by decide) rfl (Nat.le_of_ble_eq_true rfl) ?_
  intro p e s m args below meth c hx hb hrt hml hts hown hlocks hnm hP hK ls hl
  have hown : s.vm.findClass RX6 = some m.cls := hown
  have hl : lv_has ls 2 [(0, .ref (ρ 0)), (1, .int (I v))] := hl
  have hD : va_D (adIn (refW E ρ th rc tl pa kd nm st hi ke tx wy)) (refW E ρ th rc tl pa kd nm st hi ke tx wy) := D_of_dR hρ rfl
  have hS : va_S (adIn (refW E ρ th rc tl pa kd nm st hi ke tx wy)) s.heap s.heap [] := va_S.rf
  refine lv_aload_n hx hb dX6_depthOf_0 rfl (lv_lk hl rfl) ?_
  refine lv_iload_n hx hb dX6_depthOf_1 rfl (lv_lk hl rfl) ?_
  refine call_S (va_runS ⟨hx, hb, hml, hown, hts⟩ (m_X6_isZone l E v (by omega)) (va_cwS 1 hts (gi_S ml_X6_54 st_X6_isZone it_X6 cd_X6_isZone) rfl rfl rfl (by decide +kernel) ⟨Nat.le_of_ble_eq_true rfl, Nat.le_of_ble_eq_true rfl⟩) (pR_S (hP.sub (ws' := []) [] rfl) hK) rfl rfl hl.1 rfl (lv_room (Nat.le_of_ble_eq_true rfl)) dX6_depthOf_2 ⟨Nat.le_of_ble_eq_true rfl, Nat.le_of_ble_eq_true rfl⟩) (fun _ h => h) hS rfl (fun locs hS => ?_)
  refine iv_eq (0) (by rw [if_neg (by omega)]) ?_
  refine iv_if_eq (tgt := 12) hx hb dX6_depthOf_5 (by decide) (by omega) (fun c_5 => ?_) (fun c_5 => by exfalso; omega)
  refine iv_iconst hx hb dX6_depthOf_12 ?_
  refine va_put (ci := 6) (ty := .int) hx hb hts inX6 tyX6 tyX6_ok nmX6 hown hK.1 hP (dm hD rfl) hS 0 rfl rfl 0 (by decide) (hts _ fl_X6_32) (fun _ h9 => h9) rfl (by decide +kernel) rfl rfl (Nat.le_of_ble_eq_true rfl) dX6_depthOf_13 (fun H locs hP _ hS => ?_)
  have hP : va_P E.1 vwCl (refW E ρ 1 rc tl pa kd nm st hi ke tx wy) H := hP
  refine lv_aload_n hx hb dX6_depthOf_16 rfl (lv_lk hl rfl) ?_
  refine va_get (D := E.1) (ci := 6) hx hb hts inX6 hown hK.1 hP 0 rfl rfl 0 (by decide) (hts _ fl_X6_32) (fun _ h9 => h9) rfl dX6_depthOf_17 ?_
  refine iv_if_le (tgt := 27) hx hb dX6_depthOf_20 (by decide) (by omega) (fun c_20 => by exfalso; omega) (fun c_20 => ?_)
  refine iv_iconst hx hb dX6_depthOf_23 ?_
  refine lv_goto (tgt := 32) hx hb dX6_depthOf_24 (by decide) ?_
  exact W.iret hx hb hrt (fun t ht hW => ⟨rfl, by rw [ht]; exact hP, hS.F ht⟩) hS.2.2 dX6_depthOf_32 hlocks
set_option maxHeartbeats 4000000 in
set_option maxRecDepth 100000 in
theorem m_X6_truthOf_ok (l : Launch) (E : Env3) (ρ : Nat → Nat) (th rc tl pa kd nm : Int) (st hi ke tx wy : S) (hρ : dR ρ 6) (T : Int) (hI : IB T st) (r : Nat) (hr : r < 36) : Met l yX6_truthOf (Cond.code yX6_truthOf cX6_truthOf 2 (some .int) :: ALL) ({ frames := 2, cells := 0, slots := 0, locals := 45 }) (pR [.ref (ρ 0), .int (I (r : Int))] E (refW E ρ th rc tl pa kd nm st hi ke tx wy)) (qW (some (.int (I (truthF 7 st r)))) E (refW E ρ th rc tl pa kd nm st hi ke tx wy) (refW E ρ 0 rc tl pa kd nm st hi ke tx wy)) 0 0 (adIn (refW E ρ th rc tl pa kd nm st hi ke tx wy)) := by
  refine mk_met (by decide) rfl (Nat.le_of_ble_eq_true rfl) ?_
  intro p e s m args below meth c hx hb hrt hml hts hown hlocks hnm hP hK ls hl
  have hown : s.vm.findClass RX6 = some m.cls := hown
  have hl : lv_has ls 2 [(0, .ref (ρ 0)), (1, .int (I (r : Int)))] := hl
  have hD : va_D (adIn (refW E ρ th rc tl pa kd nm st hi ke tx wy)) (refW E ρ th rc tl pa kd nm st hi ke tx wy) := D_of_dR hρ rfl
  have hS : va_S (adIn (refW E ρ th rc tl pa kd nm st hi ke tx wy)) s.heap s.heap [] := va_S.rf
  refine lv_aload_n hx hb dX6_truthOf_0 rfl (lv_lk hl rfl) ?_
  refine lv_iload_n hx hb dX6_truthOf_1 rfl (lv_lk hl rfl) ?_
  refine call_S (va_runS ⟨hx, hb, hml, hown, hts⟩ (m_X6_isRiddle l E ((r : Int)) (by omega)) (va_cwS 1 hts (gi_S ml_X6_64 st_X6_isRiddle it_X6 cd_X6_isRiddle) rfl rfl rfl (by decide +kernel) ⟨Nat.le_of_ble_eq_true rfl, Nat.le_of_ble_eq_true rfl⟩) (pR_S (hP.sub (ws' := []) [] rfl) hK) rfl rfl hl.1 rfl (lv_room (Nat.le_of_ble_eq_true rfl)) dX6_truthOf_2 ⟨Nat.le_of_ble_eq_true rfl, Nat.le_of_ble_eq_true rfl⟩) (fun _ h => h) hS rfl (fun locs hS => ?_)
  refine iv_eq (1) (by rw [if_pos (by omega)]) ?_
  refine iv_if_eq (tgt := 12) hx hb dX6_truthOf_5 (by decide) (by omega) (fun c_5 => by exfalso; omega) (fun c_5 => ?_)
  refine iv_iconst hx hb dX6_truthOf_8 ?_
  refine lv_goto (tgt := 13) hx hb dX6_truthOf_9 (by decide) ?_
  refine va_put (ci := 6) (ty := .int) hx hb hts inX6 tyX6 tyX6_ok nmX6 hown hK.1 hP (dm hD rfl) hS 0 rfl rfl 0 (by decide) (hts _ fl_X6_32) (fun _ h9 => h9) rfl (by decide +kernel) rfl rfl (Nat.le_of_ble_eq_true rfl) dX6_truthOf_13 (fun H locs hP _ hS => ?_)
  have hP : va_P E.1 vwCl (refW E ρ 0 rc tl pa kd nm st hi ke tx wy) H := hP
  refine lv_aload_n hx hb dX6_truthOf_16 rfl (lv_lk hl rfl) ?_
  refine va_get (D := E.1) (ci := 6) hx hb hts inX6 hown hK.1 hP 0 rfl rfl 0 (by decide) (hts _ fl_X6_32) (fun _ h9 => h9) rfl dX6_truthOf_17 ?_
  refine iv_if_le (tgt := 27) hx hb dX6_truthOf_20 (by decide) (by omega) (fun c_20 => ?_) (fun c_20 => by exfalso; omega)
  refine lv_aload_n hx hb dX6_truthOf_27 rfl (lv_lk hl rfl) ?_
  refine lv_iload_n hx hb dX6_truthOf_28 rfl (lv_lk hl rfl) ?_
  refine call_S (va_runV ⟨hx, hb, hml, hown, hts⟩ (m_X6_truth l E ρ 0 rc tl pa kd nm st hi ke tx wy T hI r hr) (cwV 1 hts (gi_V ml_X6_106 im_X6_truth sl_X6_truth it_X6 cd_X6_truth) rfl rfl rfl (by decide +kernel) ⟨Nat.le_of_ble_eq_true rfl, Nat.le_of_ble_eq_true rfl⟩) (pR_V (q0 := 0) (ci := 6) hP hK rfl rfl) rfl rfl hl.1 rfl (lv_room (Nat.le_of_ble_eq_true rfl)) dX6_truthOf_29 ⟨Nat.le_of_ble_eq_true rfl, Nat.le_of_ble_eq_true rfl⟩) (fun _ h => h) hS rfl (fun locs hS => ?_)
  exact W.iret hx hb hrt (fun t ht hW => ⟨rfl, by rw [ht]; exact hP, hS.F ht⟩) hS.2.2 dX6_truthOf_32 hlocks
set_option maxHeartbeats 4000000 in
set_option maxRecDepth 100000 in
theorem m_X6_truthOf_bad (l : Launch) (E : Env3) (ρ : Nat → Nat) (th rc tl pa kd nm : Int) (st hi ke tx wy : S) (hρ : dR ρ 6) (v : Int) (hv : -2147483648 ≤ v ∧ v ≤ 2147483647) (hv2 : ¬ (0 ≤ v ∧ v ≤ 35)) : Met l yX6_truthOf (Cond.code yX6_truthOf cX6_truthOf 2 (some .int) :: ALL) ({ frames := 2, cells := 0, slots := 0, locals := 45 }) (pR [.ref (ρ 0), .int (I v)] E (refW E ρ th rc tl pa kd nm st hi ke tx wy)) (qW (some (.int (I 0))) E (refW E ρ th rc tl pa kd nm st hi ke tx wy) (refW E ρ 1 rc tl pa kd nm st hi ke tx wy)) 0 0 (adIn (refW E ρ th rc tl pa kd nm st hi ke tx wy)) := by
  refine mk_met (by decide) rfl (Nat.le_of_ble_eq_true rfl) ?_
  intro p e s m args below meth c hx hb hrt hml hts hown hlocks hnm hP hK ls hl
  have hown : s.vm.findClass RX6 = some m.cls := hown
  have hl : lv_has ls 2 [(0, .ref (ρ 0)), (1, .int (I v))] := hl
  have hD : va_D (adIn (refW E ρ th rc tl pa kd nm st hi ke tx wy)) (refW E ρ th rc tl pa kd nm st hi ke tx wy) := D_of_dR hρ rfl
  have hS : va_S (adIn (refW E ρ th rc tl pa kd nm st hi ke tx wy)) s.heap s.heap [] := va_S.rf
  refine lv_aload_n hx hb dX6_truthOf_0 rfl (lv_lk hl rfl) ?_
  refine lv_iload_n hx hb dX6_truthOf_1 rfl (lv_lk hl rfl) ?_
  refine call_S (va_runS ⟨hx, hb, hml, hown, hts⟩ (m_X6_isRiddle l E v (by omega)) (va_cwS 1 hts (gi_S ml_X6_64 st_X6_isRiddle it_X6 cd_X6_isRiddle) rfl rfl rfl (by decide +kernel) ⟨Nat.le_of_ble_eq_true rfl, Nat.le_of_ble_eq_true rfl⟩) (pR_S (hP.sub (ws' := []) [] rfl) hK) rfl rfl hl.1 rfl (lv_room (Nat.le_of_ble_eq_true rfl)) dX6_truthOf_2 ⟨Nat.le_of_ble_eq_true rfl, Nat.le_of_ble_eq_true rfl⟩) (fun _ h => h) hS rfl (fun locs hS => ?_)
  refine iv_eq (0) (by rw [if_neg (by omega)]) ?_
  refine iv_if_eq (tgt := 12) hx hb dX6_truthOf_5 (by decide) (by omega) (fun c_5 => ?_) (fun c_5 => by exfalso; omega)
  refine iv_iconst hx hb dX6_truthOf_12 ?_
  refine va_put (ci := 6) (ty := .int) hx hb hts inX6 tyX6 tyX6_ok nmX6 hown hK.1 hP (dm hD rfl) hS 0 rfl rfl 0 (by decide) (hts _ fl_X6_32) (fun _ h9 => h9) rfl (by decide +kernel) rfl rfl (Nat.le_of_ble_eq_true rfl) dX6_truthOf_13 (fun H locs hP _ hS => ?_)
  have hP : va_P E.1 vwCl (refW E ρ 1 rc tl pa kd nm st hi ke tx wy) H := hP
  refine lv_aload_n hx hb dX6_truthOf_16 rfl (lv_lk hl rfl) ?_
  refine va_get (D := E.1) (ci := 6) hx hb hts inX6 hown hK.1 hP 0 rfl rfl 0 (by decide) (hts _ fl_X6_32) (fun _ h9 => h9) rfl dX6_truthOf_17 ?_
  refine iv_if_le (tgt := 27) hx hb dX6_truthOf_20 (by decide) (by omega) (fun c_20 => by exfalso; omega) (fun c_20 => ?_)
  refine iv_iconst hx hb dX6_truthOf_23 ?_
  refine lv_goto (tgt := 32) hx hb dX6_truthOf_24 (by decide) ?_
  exact W.iret hx hb hrt (fun t ht hW => ⟨rfl, by rw [ht]; exact hP, hS.F ht⟩) hS.2.2 dX6_truthOf_32 hlocks
set_option maxHeartbeats 4000000 in
set_option maxRecDepth 100000 in
theorem m_X6_ticksLeftOf_ok (l : Launch) (E : Env3) (ρ : Nat → Nat) (th rc tl pa kd nm : Int) (st hi ke tx wy : S) (hρ : dR ρ 6) (T : Int) (hI : IB T st) (r : Nat) (hr : r < 36) : Met l yX6_ticksLeftOf (Cond.code yX6_ticksLeftOf cX6_ticksLeftOf 2 (some .int) :: ALL) ({ frames := 2, cells := 0, slots := 0, locals := 42 }) (pR [.ref (ρ 0), .int (I (r : Int))] E (refW E ρ th rc tl pa kd nm st hi ke tx wy)) (qW (some (.int (I (left st (st (36 + 6 * r + 5)))))) E (refW E ρ th rc tl pa kd nm st hi ke tx wy) (refW E ρ 0 rc tl pa kd nm st hi ke tx wy)) 0 0 (adIn (refW E ρ th rc tl pa kd nm st hi ke tx wy)) := by
  refine mk_met (by decide) rfl (Nat.le_of_ble_eq_true rfl) ?_
  intro p e s m args below meth c hx hb hrt hml hts hown hlocks hnm hP hK ls hl
  have hown : s.vm.findClass RX6 = some m.cls := hown
  have hl : lv_has ls 2 [(0, .ref (ρ 0)), (1, .int (I (r : Int)))] := hl
  have hD : va_D (adIn (refW E ρ th rc tl pa kd nm st hi ke tx wy)) (refW E ρ th rc tl pa kd nm st hi ke tx wy) := D_of_dR hρ rfl
  have hS : va_S (adIn (refW E ρ th rc tl pa kd nm st hi ke tx wy)) s.heap s.heap [] := va_S.rf
  refine lv_aload_n hx hb dX6_ticksLeftOf_0 rfl (lv_lk hl rfl) ?_
  refine lv_iload_n hx hb dX6_ticksLeftOf_1 rfl (lv_lk hl rfl) ?_
  refine call_S (va_runS ⟨hx, hb, hml, hown, hts⟩ (m_X6_isRiddle l E ((r : Int)) (by omega)) (va_cwS 1 hts (gi_S ml_X6_64 st_X6_isRiddle it_X6 cd_X6_isRiddle) rfl rfl rfl (by decide +kernel) ⟨Nat.le_of_ble_eq_true rfl, Nat.le_of_ble_eq_true rfl⟩) (pR_S (hP.sub (ws' := []) [] rfl) hK) rfl rfl hl.1 rfl (lv_room (Nat.le_of_ble_eq_true rfl)) dX6_ticksLeftOf_2 ⟨Nat.le_of_ble_eq_true rfl, Nat.le_of_ble_eq_true rfl⟩) (fun _ h => h) hS rfl (fun locs hS => ?_)
  refine iv_eq (1) (by rw [if_pos (by omega)]) ?_
  refine iv_if_eq (tgt := 12) hx hb dX6_ticksLeftOf_5 (by decide) (by omega) (fun c_5 => by exfalso; omega) (fun c_5 => ?_)
  refine iv_iconst hx hb dX6_ticksLeftOf_8 ?_
  refine lv_goto (tgt := 13) hx hb dX6_ticksLeftOf_9 (by decide) ?_
  refine va_put (ci := 6) (ty := .int) hx hb hts inX6 tyX6 tyX6_ok nmX6 hown hK.1 hP (dm hD rfl) hS 0 rfl rfl 0 (by decide) (hts _ fl_X6_32) (fun _ h9 => h9) rfl (by decide +kernel) rfl rfl (Nat.le_of_ble_eq_true rfl) dX6_ticksLeftOf_13 (fun H locs hP _ hS => ?_)
  have hP : va_P E.1 vwCl (refW E ρ 0 rc tl pa kd nm st hi ke tx wy) H := hP
  refine lv_aload_n hx hb dX6_ticksLeftOf_16 rfl (lv_lk hl rfl) ?_
  refine va_get (D := E.1) (ci := 6) hx hb hts inX6 hown hK.1 hP 0 rfl rfl 0 (by decide) (hts _ fl_X6_32) (fun _ h9 => h9) rfl dX6_ticksLeftOf_17 ?_
  refine iv_if_le (tgt := 27) hx hb dX6_ticksLeftOf_20 (by decide) (by omega) (fun c_20 => ?_) (fun c_20 => by exfalso; omega)
  refine lv_aload_n hx hb dX6_ticksLeftOf_27 rfl (lv_lk hl rfl) ?_
  refine lv_aload_n hx hb dX6_ticksLeftOf_28 rfl (lv_lk hl rfl) ?_
  refine lv_iload_n hx hb dX6_ticksLeftOf_29 rfl (lv_lk hl rfl) ?_
  refine iv_iconst hx hb dX6_ticksLeftOf_30 ?_
  refine call_S (va_runV ⟨hx, hb, hml, hown, hts⟩ (m_X6_of l E ρ 0 rc tl pa kd nm st hi ke tx wy r 5 hr (by decide)) (cwV 2 hts (gi_V ml_X6_61 im_X6_of sl_X6_of it_X6 cd_X6_of) rfl rfl rfl (by decide +kernel) ⟨Nat.le_of_ble_eq_true rfl, Nat.le_of_ble_eq_true rfl⟩) (pR_V (q0 := 0) (ci := 6) hP hK rfl rfl) rfl rfl hl.1 rfl (lv_room (Nat.le_of_ble_eq_true rfl)) dX6_ticksLeftOf_31 ⟨Nat.le_of_ble_eq_true rfl, Nat.le_of_ble_eq_true rfl⟩) (fun _ h => h) hS rfl (fun locs hS => ?_)
  refine call_S (va_runV ⟨hx, hb, hml, hown, hts⟩ (m_X6_leftUntil l E ρ 0 rc tl pa kd nm st hi ke tx wy _ (by have t3 := (hI.2.2.2 r hr).2; unfold triM at t3; have := hI.1; omega)) (cwV 1 hts (gi_V ml_X6_109 im_X6_leftUntil sl_X6_leftUntil it_X6 cd_X6_leftUntil) rfl rfl rfl (by decide +kernel) ⟨Nat.le_of_ble_eq_true rfl, Nat.le_of_ble_eq_true rfl⟩) (pR_V (q0 := 0) (ci := 6) hP hK rfl rfl) rfl rfl hl.1 rfl (lv_room (Nat.le_of_ble_eq_true rfl)) dX6_ticksLeftOf_34 ⟨Nat.le_of_ble_eq_true rfl, Nat.le_of_ble_eq_true rfl⟩) (fun _ h => h) hS rfl (fun locs hS => ?_)
  exact W.iret hx hb hrt (fun t ht hW => ⟨rfl, by rw [ht]; exact hP, hS.F ht⟩) hS.2.2 dX6_ticksLeftOf_37 hlocks
set_option maxHeartbeats 4000000 in
set_option maxRecDepth 100000 in
theorem m_X6_ticksLeftOf_bad (l : Launch) (E : Env3) (ρ : Nat → Nat) (th rc tl pa kd nm : Int) (st hi ke tx wy : S) (hρ : dR ρ 6) (v : Int) (hv : -2147483648 ≤ v ∧ v ≤ 2147483647) (hv2 : ¬ (0 ≤ v ∧ v ≤ 35)) : Met l yX6_ticksLeftOf (Cond.code yX6_ticksLeftOf cX6_ticksLeftOf 2 (some .int) :: ALL) ({ frames := 2, cells := 0, slots := 0, locals := 42 }) (pR [.ref (ρ 0), .int (I v)] E (refW E ρ th rc tl pa kd nm st hi ke tx wy)) (qW (some (.int (I 0))) E (refW E ρ th rc tl pa kd nm st hi ke tx wy) (refW E ρ 1 rc tl pa kd nm st hi ke tx wy)) 0 0 (adIn (refW E ρ th rc tl pa kd nm st hi ke tx wy)) := by
  refine mk_met (by decide) rfl (Nat.le_of_ble_eq_true rfl) ?_
  intro p e s m args below meth c hx hb hrt hml hts hown hlocks hnm hP hK ls hl
  have hown : s.vm.findClass RX6 = some m.cls := hown
  have hl : lv_has ls 2 [(0, .ref (ρ 0)), (1, .int (I v))] := hl
  have hD : va_D (adIn (refW E ρ th rc tl pa kd nm st hi ke tx wy)) (refW E ρ th rc tl pa kd nm st hi ke tx wy) := D_of_dR hρ rfl
  have hS : va_S (adIn (refW E ρ th rc tl pa kd nm st hi ke tx wy)) s.heap s.heap [] := va_S.rf
  refine lv_aload_n hx hb dX6_ticksLeftOf_0 rfl (lv_lk hl rfl) ?_
  refine lv_iload_n hx hb dX6_ticksLeftOf_1 rfl (lv_lk hl rfl) ?_
  refine call_S (va_runS ⟨hx, hb, hml, hown, hts⟩ (m_X6_isRiddle l E v (by omega)) (va_cwS 1 hts (gi_S ml_X6_64 st_X6_isRiddle it_X6 cd_X6_isRiddle) rfl rfl rfl (by decide +kernel) ⟨Nat.le_of_ble_eq_true rfl, Nat.le_of_ble_eq_true rfl⟩) (pR_S (hP.sub (ws' := []) [] rfl) hK) rfl rfl hl.1 rfl (lv_room (Nat.le_of_ble_eq_true rfl)) dX6_ticksLeftOf_2 ⟨Nat.le_of_ble_eq_true rfl, Nat.le_of_ble_eq_true rfl⟩) (fun _ h => h) hS rfl (fun locs hS => ?_)
  refine iv_eq (0) (by rw [if_neg (by omega)]) ?_
  refine iv_if_eq (tgt := 12) hx hb dX6_ticksLeftOf_5 (by decide) (by omega) (fun c_5 => ?_) (fun c_5 => by exfalso; omega)
  refine iv_iconst hx hb dX6_ticksLeftOf_12 ?_
  refine va_put (ci := 6) (ty := .int) hx hb hts inX6 tyX6 tyX6_ok nmX6 hown hK.1 hP (dm hD rfl) hS 0 rfl rfl 0 (by decide) (hts _ fl_X6_32) (fun _ h9 => h9) rfl (by decide +kernel) rfl rfl (Nat.le_of_ble_eq_true rfl) dX6_ticksLeftOf_13 (fun H locs hP _ hS => ?_)
  have hP : va_P E.1 vwCl (refW E ρ 1 rc tl pa kd nm st hi ke tx wy) H := hP
  refine lv_aload_n hx hb dX6_ticksLeftOf_16 rfl (lv_lk hl rfl) ?_
  refine va_get (D := E.1) (ci := 6) hx hb hts inX6 hown hK.1 hP 0 rfl rfl 0 (by decide) (hts _ fl_X6_32) (fun _ h9 => h9) rfl dX6_ticksLeftOf_17 ?_
  refine iv_if_le (tgt := 27) hx hb dX6_ticksLeftOf_20 (by decide) (by omega) (fun c_20 => by exfalso; omega) (fun c_20 => ?_)
  refine iv_iconst hx hb dX6_ticksLeftOf_23 ?_
  refine lv_goto (tgt := 37) hx hb dX6_ticksLeftOf_24 (by decide) ?_
  exact W.iret hx hb hrt (fun t ht hW => ⟨rfl, by rw [ht]; exact hP, hS.F ht⟩) hS.2.2 dX6_ticksLeftOf_37 hlocks
set_option maxHeartbeats 4000000 in
set_option maxRecDepth 100000 in
theorem m_X6_referralLeft_ok (l : Launch) (E : Env3) (ρ : Nat → Nat) (th rc tl pa kd nm : Int) (st hi ke tx wy : S) (hρ : dR ρ 6) (T : Int) (hI : IB T st) (z : Nat) (hz : z < 6) : Met l yX6_referralLeft (Cond.code yX6_referralLeft cX6_referralLeft 2 (some .int) :: ALL) ({ frames := 2, cells := 0, slots := 0, locals := 42 }) (pR [.ref (ρ 0), .int (I (z : Int))] E (refW E ρ th rc tl pa kd nm st hi ke tx wy)) (qW (some (.int (I (left st (st (6 + 5 * z + 3)))))) E (refW E ρ th rc tl pa kd nm st hi ke tx wy) (refW E ρ 0 rc tl pa kd nm st hi ke tx wy)) 0 0 (adIn (refW E ρ th rc tl pa kd nm st hi ke tx wy)) := by
  refine mk_met (by decide) rfl (Nat.le_of_ble_eq_true rfl) ?_
  intro p e s m args below meth c hx hb hrt hml hts hown hlocks hnm hP hK ls hl
  have hown : s.vm.findClass RX6 = some m.cls := hown
  have hl : lv_has ls 2 [(0, .ref (ρ 0)), (1, .int (I (z : Int)))] := hl
  have hD : va_D (adIn (refW E ρ th rc tl pa kd nm st hi ke tx wy)) (refW E ρ th rc tl pa kd nm st hi ke tx wy) := D_of_dR hρ rfl
  have hS : va_S (adIn (refW E ρ th rc tl pa kd nm st hi ke tx wy)) s.heap s.heap [] := va_S.rf
  refine lv_aload_n hx hb dX6_referralLeft_0 rfl (lv_lk hl rfl) ?_
  refine lv_iload_n hx hb dX6_referralLeft_1 rfl (lv_lk hl rfl) ?_
  refine call_S (va_runS ⟨hx, hb, hml, hown, hts⟩ (m_X6_isZone l E ((z : Int)) (by omega)) (va_cwS 1 hts (gi_S ml_X6_54 st_X6_isZone it_X6 cd_X6_isZone) rfl rfl rfl (by decide +kernel) ⟨Nat.le_of_ble_eq_true rfl, Nat.le_of_ble_eq_true rfl⟩) (pR_S (hP.sub (ws' := []) [] rfl) hK) rfl rfl hl.1 rfl (lv_room (Nat.le_of_ble_eq_true rfl)) dX6_referralLeft_2 ⟨Nat.le_of_ble_eq_true rfl, Nat.le_of_ble_eq_true rfl⟩) (fun _ h => h) hS rfl (fun locs hS => ?_)
  refine iv_eq (1) (by rw [if_pos (by omega)]) ?_
  refine iv_if_eq (tgt := 12) hx hb dX6_referralLeft_5 (by decide) (by omega) (fun c_5 => by exfalso; omega) (fun c_5 => ?_)
  refine iv_iconst hx hb dX6_referralLeft_8 ?_
  refine lv_goto (tgt := 13) hx hb dX6_referralLeft_9 (by decide) ?_
  refine va_put (ci := 6) (ty := .int) hx hb hts inX6 tyX6 tyX6_ok nmX6 hown hK.1 hP (dm hD rfl) hS 0 rfl rfl 0 (by decide) (hts _ fl_X6_32) (fun _ h9 => h9) rfl (by decide +kernel) rfl rfl (Nat.le_of_ble_eq_true rfl) dX6_referralLeft_13 (fun H locs hP _ hS => ?_)
  have hP : va_P E.1 vwCl (refW E ρ 0 rc tl pa kd nm st hi ke tx wy) H := hP
  refine lv_aload_n hx hb dX6_referralLeft_16 rfl (lv_lk hl rfl) ?_
  refine va_get (D := E.1) (ci := 6) hx hb hts inX6 hown hK.1 hP 0 rfl rfl 0 (by decide) (hts _ fl_X6_32) (fun _ h9 => h9) rfl dX6_referralLeft_17 ?_
  refine iv_if_le (tgt := 27) hx hb dX6_referralLeft_20 (by decide) (by omega) (fun c_20 => ?_) (fun c_20 => by exfalso; omega)
  refine lv_aload_n hx hb dX6_referralLeft_27 rfl (lv_lk hl rfl) ?_
  refine lv_aload_n hx hb dX6_referralLeft_28 rfl (lv_lk hl rfl) ?_
  refine lv_iload_n hx hb dX6_referralLeft_29 rfl (lv_lk hl rfl) ?_
  refine iv_iconst hx hb dX6_referralLeft_30 ?_
  refine call_S (va_runV ⟨hx, hb, hml, hown, hts⟩ (m_X6_ofZone l E ρ 0 rc tl pa kd nm st hi ke tx wy z 3 hz (by decide)) (cwV 2 hts (gi_V ml_X6_50 im_X6_ofZone sl_X6_ofZone it_X6 cd_X6_ofZone) rfl rfl rfl (by decide +kernel) ⟨Nat.le_of_ble_eq_true rfl, Nat.le_of_ble_eq_true rfl⟩) (pR_V (q0 := 0) (ci := 6) hP hK rfl rfl) rfl rfl hl.1 rfl (lv_room (Nat.le_of_ble_eq_true rfl)) dX6_referralLeft_31 ⟨Nat.le_of_ble_eq_true rfl, Nat.le_of_ble_eq_true rfl⟩) (fun _ h => h) hS rfl (fun locs hS => ?_)
  refine call_S (va_runV ⟨hx, hb, hml, hown, hts⟩ (m_X6_leftUntil l E ρ 0 rc tl pa kd nm st hi ke tx wy _ (by have t3 := (hI.2.2.1 z hz).2.2.2.2.2; have := hI.1; omega)) (cwV 1 hts (gi_V ml_X6_109 im_X6_leftUntil sl_X6_leftUntil it_X6 cd_X6_leftUntil) rfl rfl rfl (by decide +kernel) ⟨Nat.le_of_ble_eq_true rfl, Nat.le_of_ble_eq_true rfl⟩) (pR_V (q0 := 0) (ci := 6) hP hK rfl rfl) rfl rfl hl.1 rfl (lv_room (Nat.le_of_ble_eq_true rfl)) dX6_referralLeft_34 ⟨Nat.le_of_ble_eq_true rfl, Nat.le_of_ble_eq_true rfl⟩) (fun _ h => h) hS rfl (fun locs hS => ?_)
  exact W.iret hx hb hrt (fun t ht hW => ⟨rfl, by rw [ht]; exact hP, hS.F ht⟩) hS.2.2 dX6_referralLeft_37 hlocks
set_option maxHeartbeats 4000000 in
set_option maxRecDepth 100000 in
theorem m_X6_referralLeft_bad (l : Launch) (E : Env3) (ρ : Nat → Nat) (th rc tl pa kd nm : Int) (st hi ke tx wy : S) (hρ : dR ρ 6) (v : Int) (hv : -2147483648 ≤ v ∧ v ≤ 2147483647) (hv2 : ¬ (0 ≤ v ∧ v ≤ 5)) : Met l yX6_referralLeft (Cond.code yX6_referralLeft cX6_referralLeft 2 (some .int) :: ALL) ({ frames := 2, cells := 0, slots := 0, locals := 42 }) (pR [.ref (ρ 0), .int (I v)] E (refW E ρ th rc tl pa kd nm st hi ke tx wy)) (qW (some (.int (I 0))) E (refW E ρ th rc tl pa kd nm st hi ke tx wy) (refW E ρ 1 rc tl pa kd nm st hi ke tx wy)) 0 0 (adIn (refW E ρ th rc tl pa kd nm st hi ke tx wy)) := by
  refine mk_met (by decide) rfl (Nat.le_of_ble_eq_true rfl) ?_
  intro p e s m args below meth c hx hb hrt hml hts hown hlocks hnm hP hK ls hl
  have hown : s.vm.findClass RX6 = some m.cls := hown
  have hl : lv_has ls 2 [(0, .ref (ρ 0)), (1, .int (I v))] := hl
  have hD : va_D (adIn (refW E ρ th rc tl pa kd nm st hi ke tx wy)) (refW E ρ th rc tl pa kd nm st hi ke tx wy) := D_of_dR hρ rfl
  have hS : va_S (adIn (refW E ρ th rc tl pa kd nm st hi ke tx wy)) s.heap s.heap [] := va_S.rf
  refine lv_aload_n hx hb dX6_referralLeft_0 rfl (lv_lk hl rfl) ?_
  refine lv_iload_n hx hb dX6_referralLeft_1 rfl (lv_lk hl rfl) ?_
  refine call_S (va_runS ⟨hx, hb, hml, hown, hts⟩ (m_X6_isZone l E v (by omega)) (va_cwS 1 hts (gi_S ml_X6_54 st_X6_isZone it_X6 cd_X6_isZone) rfl rfl rfl (by decide +kernel) ⟨Nat.le_of_ble_eq_true rfl, Nat.le_of_ble_eq_true rfl⟩) (pR_S (hP.sub (ws' := []) [] rfl) hK) rfl rfl hl.1 rfl (lv_room (Nat.le_of_ble_eq_true rfl)) dX6_referralLeft_2 ⟨Nat.le_of_ble_eq_true rfl, Nat.le_of_ble_eq_true rfl⟩) (fun _ h => h) hS rfl (fun locs hS => ?_)
  refine iv_eq (0) (by rw [if_neg (by omega)]) ?_
  refine iv_if_eq (tgt := 12) hx hb dX6_referralLeft_5 (by decide) (by omega) (fun c_5 => ?_) (fun c_5 => by exfalso; omega)
  refine iv_iconst hx hb dX6_referralLeft_12 ?_
  refine va_put (ci := 6) (ty := .int) hx hb hts inX6 tyX6 tyX6_ok nmX6 hown hK.1 hP (dm hD rfl) hS 0 rfl rfl 0 (by decide) (hts _ fl_X6_32) (fun _ h9 => h9) rfl (by decide +kernel) rfl rfl (Nat.le_of_ble_eq_true rfl) dX6_referralLeft_13 (fun H locs hP _ hS => ?_)
  have hP : va_P E.1 vwCl (refW E ρ 1 rc tl pa kd nm st hi ke tx wy) H := hP
  refine lv_aload_n hx hb dX6_referralLeft_16 rfl (lv_lk hl rfl) ?_
  refine va_get (D := E.1) (ci := 6) hx hb hts inX6 hown hK.1 hP 0 rfl rfl 0 (by decide) (hts _ fl_X6_32) (fun _ h9 => h9) rfl dX6_referralLeft_17 ?_
  refine iv_if_le (tgt := 27) hx hb dX6_referralLeft_20 (by decide) (by omega) (fun c_20 => by exfalso; omega) (fun c_20 => ?_)
  refine iv_iconst hx hb dX6_referralLeft_23 ?_
  refine lv_goto (tgt := 37) hx hb dX6_referralLeft_24 (by decide) ?_
  exact W.iret hx hb hrt (fun t ht hW => ⟨rfl, by rw [ht]; exact hP, hS.F ht⟩) hS.2.2 dX6_referralLeft_37 hlocks
set_option maxHeartbeats 4000000 in
set_option maxRecDepth 100000 in
theorem m_X6_isOutOfDate_ok (l : Launch) (E : Env3) (ρ : Nat → Nat) (th rc tl pa kd nm : Int) (st hi ke tx wy : S) (hρ : dR ρ 6) (T : Int) (hI : IB T st) (r : Nat) (hr : r < 36) : Met l yX6_isOutOfDate (Cond.code yX6_isOutOfDate cX6_isOutOfDate 2 (some .boolean) :: ALL) ({ frames := 2, cells := 0, slots := 0, locals := 45 }) (pR [.ref (ρ 0), .int (I (r : Int))] E (refW E ρ th rc tl pa kd nm st hi ke tx wy)) (qW (some (.int (I (oldI st r)))) E (refW E ρ th rc tl pa kd nm st hi ke tx wy) (refW E ρ 0 rc tl pa kd nm st hi ke tx wy)) 0 0 (adIn (refW E ρ th rc tl pa kd nm st hi ke tx wy)) := by
  refine mk_met (by decide) rfl (Nat.le_of_ble_eq_true rfl) ?_
  intro p e s m args below meth c hx hb hrt hml hts hown hlocks hnm hP hK ls hl
  have hown : s.vm.findClass RX6 = some m.cls := hown
  have hl : lv_has ls 2 [(0, .ref (ρ 0)), (1, .int (I (r : Int)))] := hl
  have hD : va_D (adIn (refW E ρ th rc tl pa kd nm st hi ke tx wy)) (refW E ρ th rc tl pa kd nm st hi ke tx wy) := D_of_dR hρ rfl
  have hS : va_S (adIn (refW E ρ th rc tl pa kd nm st hi ke tx wy)) s.heap s.heap [] := va_S.rf
  have hq9 := old_01 st r
  refine lv_aload_n hx hb dX6_isOutOfDate_0 rfl (lv_lk hl rfl) ?_
  refine lv_iload_n hx hb dX6_isOutOfDate_1 rfl (lv_lk hl rfl) ?_
  refine call_S (va_runS ⟨hx, hb, hml, hown, hts⟩ (m_X6_isRiddle l E ((r : Int)) (by omega)) (va_cwS 1 hts (gi_S ml_X6_64 st_X6_isRiddle it_X6 cd_X6_isRiddle) rfl rfl rfl (by decide +kernel) ⟨Nat.le_of_ble_eq_true rfl, Nat.le_of_ble_eq_true rfl⟩) (pR_S (hP.sub (ws' := []) [] rfl) hK) rfl rfl hl.1 rfl (lv_room (Nat.le_of_ble_eq_true rfl)) dX6_isOutOfDate_2 ⟨Nat.le_of_ble_eq_true rfl, Nat.le_of_ble_eq_true rfl⟩) (fun _ h => h) hS rfl (fun locs hS => ?_)
  refine iv_eq (1) (by rw [if_pos (by omega)]) ?_
  refine iv_if_eq (tgt := 12) hx hb dX6_isOutOfDate_5 (by decide) (by omega) (fun c_5 => by exfalso; omega) (fun c_5 => ?_)
  refine iv_iconst hx hb dX6_isOutOfDate_8 ?_
  refine lv_goto (tgt := 13) hx hb dX6_isOutOfDate_9 (by decide) ?_
  refine va_put (ci := 6) (ty := .int) hx hb hts inX6 tyX6 tyX6_ok nmX6 hown hK.1 hP (dm hD rfl) hS 0 rfl rfl 0 (by decide) (hts _ fl_X6_32) (fun _ h9 => h9) rfl (by decide +kernel) rfl rfl (Nat.le_of_ble_eq_true rfl) dX6_isOutOfDate_13 (fun H locs hP _ hS => ?_)
  have hP : va_P E.1 vwCl (refW E ρ 0 rc tl pa kd nm st hi ke tx wy) H := hP
  refine lv_aload_n hx hb dX6_isOutOfDate_16 rfl (lv_lk hl rfl) ?_
  refine va_get (D := E.1) (ci := 6) hx hb hts inX6 hown hK.1 hP 0 rfl rfl 0 (by decide) (hts _ fl_X6_32) (fun _ h9 => h9) rfl dX6_isOutOfDate_17 ?_
  refine iv_if_ne (tgt := 35) hx hb dX6_isOutOfDate_20 (by decide) (by omega) (fun c_20 => by exfalso; omega) (fun c_20 => ?_)
  refine lv_aload_n hx hb dX6_isOutOfDate_23 rfl (lv_lk hl rfl) ?_
  refine lv_iload_n hx hb dX6_isOutOfDate_24 rfl (lv_lk hl rfl) ?_
  refine call_S (va_runV ⟨hx, hb, hml, hown, hts⟩ (m_X6_isOld l E ρ 0 rc tl pa kd nm st hi ke tx wy T hI r hr) (cwV 1 hts (gi_V ml_X6_122 im_X6_isOld sl_X6_isOld it_X6 cd_X6_isOld) rfl rfl rfl (by decide +kernel) ⟨Nat.le_of_ble_eq_true rfl, Nat.le_of_ble_eq_true rfl⟩) (pR_V (q0 := 0) (ci := 6) hP hK rfl rfl) rfl rfl hl.1 rfl (lv_room (Nat.le_of_ble_eq_true rfl)) dX6_isOutOfDate_25 ⟨Nat.le_of_ble_eq_true rfl, Nat.le_of_ble_eq_true rfl⟩) (fun _ h => h) hS rfl (fun locs hS => ?_)
  refine iv_if_eq (tgt := 35) hx hb dX6_isOutOfDate_28 (by decide) (by omega) (fun c_28 => ?_) (fun c_28 => ?_)
  · refine iv_iconst hx hb dX6_isOutOfDate_35 ?_
    refine iv_eq (oldI st r) (by omega) ?_
    exact W.zret (ty := .boolean) hx hb hrt old_nar (fun t ht hW => ⟨rfl, by rw [ht]; exact hP, hS.F ht⟩) hS.2.2 dX6_isOutOfDate_36 hlocks
  · refine iv_iconst hx hb dX6_isOutOfDate_31 ?_
    refine lv_goto (tgt := 36) hx hb dX6_isOutOfDate_32 (by decide) ?_
    refine iv_eq (oldI st r) (by omega) ?_
    exact W.zret (ty := .boolean) hx hb hrt old_nar (fun t ht hW => ⟨rfl, by rw [ht]; exact hP, hS.F ht⟩) hS.2.2 dX6_isOutOfDate_36 hlocks
set_option maxHeartbeats 4000000 in
set_option maxRecDepth 100000 in
theorem m_X6_isOutOfDate_bad (l : Launch) (E : Env3) (ρ : Nat → Nat) (th rc tl pa kd nm : Int) (st hi ke tx wy : S) (hρ : dR ρ 6) (v : Int) (hv : -2147483648 ≤ v ∧ v ≤ 2147483647) (hv2 : ¬ (0 ≤ v ∧ v ≤ 35)) : Met l yX6_isOutOfDate (Cond.code yX6_isOutOfDate cX6_isOutOfDate 2 (some .boolean) :: ALL) ({ frames := 2, cells := 0, slots := 0, locals := 45 }) (pR [.ref (ρ 0), .int (I v)] E (refW E ρ th rc tl pa kd nm st hi ke tx wy)) (qW (some (.int (I 0))) E (refW E ρ th rc tl pa kd nm st hi ke tx wy) (refW E ρ 1 rc tl pa kd nm st hi ke tx wy)) 0 0 (adIn (refW E ρ th rc tl pa kd nm st hi ke tx wy)) := by
  refine mk_met (by decide) rfl (Nat.le_of_ble_eq_true rfl) ?_
  intro p e s m args below meth c hx hb hrt hml hts hown hlocks hnm hP hK ls hl
  have hown : s.vm.findClass RX6 = some m.cls := hown
  have hl : lv_has ls 2 [(0, .ref (ρ 0)), (1, .int (I v))] := hl
  have hD : va_D (adIn (refW E ρ th rc tl pa kd nm st hi ke tx wy)) (refW E ρ th rc tl pa kd nm st hi ke tx wy) := D_of_dR hρ rfl
  have hS : va_S (adIn (refW E ρ th rc tl pa kd nm st hi ke tx wy)) s.heap s.heap [] := va_S.rf
  refine lv_aload_n hx hb dX6_isOutOfDate_0 rfl (lv_lk hl rfl) ?_
  refine lv_iload_n hx hb dX6_isOutOfDate_1 rfl (lv_lk hl rfl) ?_
  refine call_S (va_runS ⟨hx, hb, hml, hown, hts⟩ (m_X6_isRiddle l E v (by omega)) (va_cwS 1 hts (gi_S ml_X6_64 st_X6_isRiddle it_X6 cd_X6_isRiddle) rfl rfl rfl (by decide +kernel) ⟨Nat.le_of_ble_eq_true rfl, Nat.le_of_ble_eq_true rfl⟩) (pR_S (hP.sub (ws' := []) [] rfl) hK) rfl rfl hl.1 rfl (lv_room (Nat.le_of_ble_eq_true rfl)) dX6_isOutOfDate_2 ⟨Nat.le_of_ble_eq_true rfl, Nat.le_of_ble_eq_true rfl⟩) (fun _ h => h) hS rfl (fun locs hS => ?_)
  refine iv_eq (0) (by rw [if_neg (by omega)]) ?_
  refine iv_if_eq (tgt := 12) hx hb dX6_isOutOfDate_5 (by decide) (by omega) (fun c_5 => ?_) (fun c_5 => by exfalso; omega)
  refine iv_iconst hx hb dX6_isOutOfDate_12 ?_
  refine va_put (ci := 6) (ty := .int) hx hb hts inX6 tyX6 tyX6_ok nmX6 hown hK.1 hP (dm hD rfl) hS 0 rfl rfl 0 (by decide) (hts _ fl_X6_32) (fun _ h9 => h9) rfl (by decide +kernel) rfl rfl (Nat.le_of_ble_eq_true rfl) dX6_isOutOfDate_13 (fun H locs hP _ hS => ?_)
  have hP : va_P E.1 vwCl (refW E ρ 1 rc tl pa kd nm st hi ke tx wy) H := hP
  refine lv_aload_n hx hb dX6_isOutOfDate_16 rfl (lv_lk hl rfl) ?_
  refine va_get (D := E.1) (ci := 6) hx hb hts inX6 hown hK.1 hP 0 rfl rfl 0 (by decide) (hts _ fl_X6_32) (fun _ h9 => h9) rfl dX6_isOutOfDate_17 ?_
  refine iv_if_ne (tgt := 35) hx hb dX6_isOutOfDate_20 (by decide) (by omega) (fun c_20 => ?_) (fun c_20 => by exfalso; omega)
  refine iv_iconst hx hb dX6_isOutOfDate_35 ?_
  exact W.zret (ty := .boolean) hx hb hrt (by rfl) (fun t ht hW => ⟨rfl, by rw [ht]; exact hP, hS.F ht⟩) hS.2.2 dX6_isOutOfDate_36 hlocks
set_option maxHeartbeats 4000000 in
set_option maxRecDepth 100000 in
theorem m_X6_wouldSolve_ok (l : Launch) (E : Env3) (ρ : Nat → Nat) (th rc tl pa kd nm : Int) (st hi ke tx wy : S) (hρ : dR ρ 6) (T : Int) (hI : IB T st) (r : Nat) (hr : r < 36) : Met l yX6_wouldSolve (Cond.code yX6_wouldSolve cX6_wouldSolve 2 (some .int) :: ALL) ({ frames := 6, cells := 0, slots := 0, locals := 136 }) (pR [.ref (ρ 0), .int (I (r : Int))] E (refW E ρ th rc tl pa kd nm st hi ke tx wy)) (qX (some (.int (I (would st r)))) E (refW E ρ th rc tl pa kd nm st hi ke tx wy) (fun (g : S × S) => (refW E ρ 0 rc tl pa kd nm st hi g.1 tx g.2))) 0 0 (adIn (refW E ρ th rc tl pa kd nm st hi ke tx wy)) := by
  refine mk_met (by decide) rfl (Nat.le_of_ble_eq_true rfl) ?_
  intro p e s m args below meth c hx hb hrt hml hts hown hlocks hnm hP hK ls hl
  have hown : s.vm.findClass RX6 = some m.cls := hown
  have hl : lv_has ls 2 [(0, .ref (ρ 0)), (1, .int (I (r : Int)))] := hl
  have hD : va_D (adIn (refW E ρ th rc tl pa kd nm st hi ke tx wy)) (refW E ρ th rc tl pa kd nm st hi ke tx wy) := D_of_dR hρ rfl
  have hS : va_S (adIn (refW E ρ th rc tl pa kd nm st hi ke tx wy)) s.heap s.heap [] := va_S.rf
  refine lv_aload_n hx hb dX6_wouldSolve_0 rfl (lv_lk hl rfl) ?_
  refine lv_iload_n hx hb dX6_wouldSolve_1 rfl (lv_lk hl rfl) ?_
  refine call_S (va_runS ⟨hx, hb, hml, hown, hts⟩ (m_X6_isRiddle l E ((r : Int)) (by omega)) (va_cwS 1 hts (gi_S ml_X6_64 st_X6_isRiddle it_X6 cd_X6_isRiddle) rfl rfl rfl (by decide +kernel) ⟨Nat.le_of_ble_eq_true rfl, Nat.le_of_ble_eq_true rfl⟩) (pR_S (hP.sub (ws' := []) [] rfl) hK) rfl rfl hl.1 rfl (lv_room (Nat.le_of_ble_eq_true rfl)) dX6_wouldSolve_2 ⟨Nat.le_of_ble_eq_true rfl, Nat.le_of_ble_eq_true rfl⟩) (fun _ h => h) hS rfl (fun locs hS => ?_)
  refine iv_eq (1) (by rw [if_pos (by omega)]) ?_
  refine iv_if_eq (tgt := 12) hx hb dX6_wouldSolve_5 (by decide) (by omega) (fun c_5 => by exfalso; omega) (fun c_5 => ?_)
  refine iv_iconst hx hb dX6_wouldSolve_8 ?_
  refine lv_goto (tgt := 13) hx hb dX6_wouldSolve_9 (by decide) ?_
  refine va_put (ci := 6) (ty := .int) hx hb hts inX6 tyX6 tyX6_ok nmX6 hown hK.1 hP (dm hD rfl) hS 0 rfl rfl 0 (by decide) (hts _ fl_X6_32) (fun _ h9 => h9) rfl (by decide +kernel) rfl rfl (Nat.le_of_ble_eq_true rfl) dX6_wouldSolve_13 (fun H locs hP _ hS => ?_)
  have hP : va_P E.1 vwCl (refW E ρ 0 rc tl pa kd nm st hi ke tx wy) H := hP
  refine lv_aload_n hx hb dX6_wouldSolve_16 rfl (lv_lk hl rfl) ?_
  refine va_get (D := E.1) (ci := 6) hx hb hts inX6 hown hK.1 hP 0 rfl rfl 0 (by decide) (hts _ fl_X6_32) (fun _ h9 => h9) rfl dX6_wouldSolve_17 ?_
  refine iv_if_le (tgt := 27) hx hb dX6_wouldSolve_20 (by decide) (by omega) (fun c_20 => ?_) (fun c_20 => by exfalso; omega)
  refine lv_aload_n hx hb dX6_wouldSolve_27 rfl (lv_lk hl rfl) ?_
  refine lv_iload_n hx hb dX6_wouldSolve_28 rfl (lv_lk hl rfl) ?_
  refine call_X (va_runV ⟨hx, hb, hml, hown, hts⟩ (m_X6_would l E ρ 0 rc tl pa kd nm st hi ke tx wy hρ T hI r hr) (cwV 1 hts (gi_V ml_X6_125 im_X6_would sl_X6_would it_X6 cd_X6_would) rfl rfl rfl (by decide +kernel) ⟨Nat.le_of_ble_eq_true rfl, Nat.le_of_ble_eq_true rfl⟩) (pR_V (q0 := 0) (ci := 6) hP hK rfl rfl) rfl rfl hl.1 rfl (lv_room (Nat.le_of_ble_eq_true rfl)) dX6_wouldSolve_29 ⟨Nat.le_of_ble_eq_true rfl, Nat.le_of_ble_eq_true rfl⟩) (dm hD rfl) hS rfl (fun g1 H locs hP hS => ?_)
  have hP : va_P E.1 vwCl (refW E ρ 0 rc tl pa kd nm st hi g1.1 tx g1.2) H := hP
  exact W.iret hx hb hrt (fun t ht hW => ⟨rfl, ⟨(g1.1, g1.2), by rw [ht]; exact hP⟩, hS.F ht⟩) hS.2.2 dX6_wouldSolve_32 hlocks
set_option maxHeartbeats 4000000 in
set_option maxRecDepth 100000 in
theorem m_X6_wouldSolve_bad (l : Launch) (E : Env3) (ρ : Nat → Nat) (th rc tl pa kd nm : Int) (st hi ke tx wy : S) (hρ : dR ρ 6) (v : Int) (hv : -2147483648 ≤ v ∧ v ≤ 2147483647) (hv2 : ¬ (0 ≤ v ∧ v ≤ 35)) : Met l yX6_wouldSolve (Cond.code yX6_wouldSolve cX6_wouldSolve 2 (some .int) :: ALL) ({ frames := 6, cells := 0, slots := 0, locals := 136 }) (pR [.ref (ρ 0), .int (I v)] E (refW E ρ th rc tl pa kd nm st hi ke tx wy)) (qW (some (.int (I 0))) E (refW E ρ th rc tl pa kd nm st hi ke tx wy) (refW E ρ 1 rc tl pa kd nm st hi ke tx wy)) 0 0 (adIn (refW E ρ th rc tl pa kd nm st hi ke tx wy)) := by
  refine mk_met (by decide) rfl (Nat.le_of_ble_eq_true rfl) ?_
  intro p e s m args below meth c hx hb hrt hml hts hown hlocks hnm hP hK ls hl
  have hown : s.vm.findClass RX6 = some m.cls := hown
  have hl : lv_has ls 2 [(0, .ref (ρ 0)), (1, .int (I v))] := hl
  have hD : va_D (adIn (refW E ρ th rc tl pa kd nm st hi ke tx wy)) (refW E ρ th rc tl pa kd nm st hi ke tx wy) := D_of_dR hρ rfl
  have hS : va_S (adIn (refW E ρ th rc tl pa kd nm st hi ke tx wy)) s.heap s.heap [] := va_S.rf
  refine lv_aload_n hx hb dX6_wouldSolve_0 rfl (lv_lk hl rfl) ?_
  refine lv_iload_n hx hb dX6_wouldSolve_1 rfl (lv_lk hl rfl) ?_
  refine call_S (va_runS ⟨hx, hb, hml, hown, hts⟩ (m_X6_isRiddle l E v (by omega)) (va_cwS 1 hts (gi_S ml_X6_64 st_X6_isRiddle it_X6 cd_X6_isRiddle) rfl rfl rfl (by decide +kernel) ⟨Nat.le_of_ble_eq_true rfl, Nat.le_of_ble_eq_true rfl⟩) (pR_S (hP.sub (ws' := []) [] rfl) hK) rfl rfl hl.1 rfl (lv_room (Nat.le_of_ble_eq_true rfl)) dX6_wouldSolve_2 ⟨Nat.le_of_ble_eq_true rfl, Nat.le_of_ble_eq_true rfl⟩) (fun _ h => h) hS rfl (fun locs hS => ?_)
  refine iv_eq (0) (by rw [if_neg (by omega)]) ?_
  refine iv_if_eq (tgt := 12) hx hb dX6_wouldSolve_5 (by decide) (by omega) (fun c_5 => ?_) (fun c_5 => by exfalso; omega)
  refine iv_iconst hx hb dX6_wouldSolve_12 ?_
  refine va_put (ci := 6) (ty := .int) hx hb hts inX6 tyX6 tyX6_ok nmX6 hown hK.1 hP (dm hD rfl) hS 0 rfl rfl 0 (by decide) (hts _ fl_X6_32) (fun _ h9 => h9) rfl (by decide +kernel) rfl rfl (Nat.le_of_ble_eq_true rfl) dX6_wouldSolve_13 (fun H locs hP _ hS => ?_)
  have hP : va_P E.1 vwCl (refW E ρ 1 rc tl pa kd nm st hi ke tx wy) H := hP
  refine lv_aload_n hx hb dX6_wouldSolve_16 rfl (lv_lk hl rfl) ?_
  refine va_get (D := E.1) (ci := 6) hx hb hts inX6 hown hK.1 hP 0 rfl rfl 0 (by decide) (hts _ fl_X6_32) (fun _ h9 => h9) rfl dX6_wouldSolve_17 ?_
  refine iv_if_le (tgt := 27) hx hb dX6_wouldSolve_20 (by decide) (by omega) (fun c_20 => by exfalso; omega) (fun c_20 => ?_)
  refine iv_iconst hx hb dX6_wouldSolve_23 ?_
  refine lv_goto (tgt := 32) hx hb dX6_wouldSolve_24 (by decide) ?_
  exact W.iret hx hb hrt (fun t ht hW => ⟨rfl, by rw [ht]; exact hP, hS.F ht⟩) hS.2.2 dX6_wouldSolve_32 hlocks
set_option maxHeartbeats 4000000 in
set_option maxRecDepth 100000 in
theorem m_X6_costOf_ok (l : Launch) (E : Env3) (ρ : Nat → Nat) (th rc tl pa kd nm : Int) (st hi ke tx wy : S) (hρ : dR ρ 6) (T : Int) (hI : IB T st) (r : Nat) (hr : r < 36) : Met l yX6_costOf (Cond.code yX6_costOf cX6_costOf 2 (some .int) :: ALL) ({ frames := 6, cells := 0, slots := 0, locals := 136 }) (pR [.ref (ρ 0), .int (I (r : Int))] E (refW E ρ th rc tl pa kd nm st hi ke tx wy)) (qX (some (.int (I (cost st r)))) E (refW E ρ th rc tl pa kd nm st hi ke tx wy) (fun (g : S × S) => (refW E ρ 0 rc tl pa kd nm st hi g.1 tx g.2))) 0 0 (adIn (refW E ρ th rc tl pa kd nm st hi ke tx wy)) := by
  refine mk_met (by decide) rfl (Nat.le_of_ble_eq_true rfl) ?_
  intro p e s m args below meth c hx hb hrt hml hts hown hlocks hnm hP hK ls hl
  have hown : s.vm.findClass RX6 = some m.cls := hown
  have hl : lv_has ls 2 [(0, .ref (ρ 0)), (1, .int (I (r : Int)))] := hl
  have hD : va_D (adIn (refW E ρ th rc tl pa kd nm st hi ke tx wy)) (refW E ρ th rc tl pa kd nm st hi ke tx wy) := D_of_dR hρ rfl
  have hS : va_S (adIn (refW E ρ th rc tl pa kd nm st hi ke tx wy)) s.heap s.heap [] := va_S.rf
  refine lv_aload_n hx hb dX6_costOf_0 rfl (lv_lk hl rfl) ?_
  refine lv_iload_n hx hb dX6_costOf_1 rfl (lv_lk hl rfl) ?_
  refine call_S (va_runS ⟨hx, hb, hml, hown, hts⟩ (m_X6_isRiddle l E ((r : Int)) (by omega)) (va_cwS 1 hts (gi_S ml_X6_64 st_X6_isRiddle it_X6 cd_X6_isRiddle) rfl rfl rfl (by decide +kernel) ⟨Nat.le_of_ble_eq_true rfl, Nat.le_of_ble_eq_true rfl⟩) (pR_S (hP.sub (ws' := []) [] rfl) hK) rfl rfl hl.1 rfl (lv_room (Nat.le_of_ble_eq_true rfl)) dX6_costOf_2 ⟨Nat.le_of_ble_eq_true rfl, Nat.le_of_ble_eq_true rfl⟩) (fun _ h => h) hS rfl (fun locs hS => ?_)
  refine iv_eq (1) (by rw [if_pos (by omega)]) ?_
  refine iv_if_eq (tgt := 12) hx hb dX6_costOf_5 (by decide) (by omega) (fun c_5 => by exfalso; omega) (fun c_5 => ?_)
  refine iv_iconst hx hb dX6_costOf_8 ?_
  refine lv_goto (tgt := 13) hx hb dX6_costOf_9 (by decide) ?_
  refine va_put (ci := 6) (ty := .int) hx hb hts inX6 tyX6 tyX6_ok nmX6 hown hK.1 hP (dm hD rfl) hS 0 rfl rfl 0 (by decide) (hts _ fl_X6_32) (fun _ h9 => h9) rfl (by decide +kernel) rfl rfl (Nat.le_of_ble_eq_true rfl) dX6_costOf_13 (fun H locs hP _ hS => ?_)
  have hP : va_P E.1 vwCl (refW E ρ 0 rc tl pa kd nm st hi ke tx wy) H := hP
  refine lv_aload_n hx hb dX6_costOf_16 rfl (lv_lk hl rfl) ?_
  refine va_get (D := E.1) (ci := 6) hx hb hts inX6 hown hK.1 hP 0 rfl rfl 0 (by decide) (hts _ fl_X6_32) (fun _ h9 => h9) rfl dX6_costOf_17 ?_
  refine iv_if_le (tgt := 27) hx hb dX6_costOf_20 (by decide) (by omega) (fun c_20 => ?_) (fun c_20 => by exfalso; omega)
  refine lv_aload_n hx hb dX6_costOf_27 rfl (lv_lk hl rfl) ?_
  refine lv_iload_n hx hb dX6_costOf_28 rfl (lv_lk hl rfl) ?_
  refine call_X (va_runV ⟨hx, hb, hml, hown, hts⟩ (m_X6_cost l E ρ 0 rc tl pa kd nm st hi ke tx wy hρ T hI r hr) (cwV 1 hts (gi_V ml_X6_128 im_X6_cost sl_X6_cost it_X6 cd_X6_cost) rfl rfl rfl (by decide +kernel) ⟨Nat.le_of_ble_eq_true rfl, Nat.le_of_ble_eq_true rfl⟩) (pR_V (q0 := 0) (ci := 6) hP hK rfl rfl) rfl rfl hl.1 rfl (lv_room (Nat.le_of_ble_eq_true rfl)) dX6_costOf_29 ⟨Nat.le_of_ble_eq_true rfl, Nat.le_of_ble_eq_true rfl⟩) (dm hD rfl) hS rfl (fun g1 H locs hP hS => ?_)
  have hP : va_P E.1 vwCl (refW E ρ 0 rc tl pa kd nm st hi g1.1 tx g1.2) H := hP
  exact W.iret hx hb hrt (fun t ht hW => ⟨rfl, ⟨(g1.1, g1.2), by rw [ht]; exact hP⟩, hS.F ht⟩) hS.2.2 dX6_costOf_32 hlocks
set_option maxHeartbeats 4000000 in
set_option maxRecDepth 100000 in
theorem m_X6_costOf_bad (l : Launch) (E : Env3) (ρ : Nat → Nat) (th rc tl pa kd nm : Int) (st hi ke tx wy : S) (hρ : dR ρ 6) (v : Int) (hv : -2147483648 ≤ v ∧ v ≤ 2147483647) (hv2 : ¬ (0 ≤ v ∧ v ≤ 35)) : Met l yX6_costOf (Cond.code yX6_costOf cX6_costOf 2 (some .int) :: ALL) ({ frames := 6, cells := 0, slots := 0, locals := 136 }) (pR [.ref (ρ 0), .int (I v)] E (refW E ρ th rc tl pa kd nm st hi ke tx wy)) (qW (some (.int (I 0))) E (refW E ρ th rc tl pa kd nm st hi ke tx wy) (refW E ρ 1 rc tl pa kd nm st hi ke tx wy)) 0 0 (adIn (refW E ρ th rc tl pa kd nm st hi ke tx wy)) := by
  refine mk_met (by decide) rfl (Nat.le_of_ble_eq_true rfl) ?_
  intro p e s m args below meth c hx hb hrt hml hts hown hlocks hnm hP hK ls hl
  have hown : s.vm.findClass RX6 = some m.cls := hown
  have hl : lv_has ls 2 [(0, .ref (ρ 0)), (1, .int (I v))] := hl
  have hD : va_D (adIn (refW E ρ th rc tl pa kd nm st hi ke tx wy)) (refW E ρ th rc tl pa kd nm st hi ke tx wy) := D_of_dR hρ rfl
  have hS : va_S (adIn (refW E ρ th rc tl pa kd nm st hi ke tx wy)) s.heap s.heap [] := va_S.rf
  refine lv_aload_n hx hb dX6_costOf_0 rfl (lv_lk hl rfl) ?_
  refine lv_iload_n hx hb dX6_costOf_1 rfl (lv_lk hl rfl) ?_
  refine call_S (va_runS ⟨hx, hb, hml, hown, hts⟩ (m_X6_isRiddle l E v (by omega)) (va_cwS 1 hts (gi_S ml_X6_64 st_X6_isRiddle it_X6 cd_X6_isRiddle) rfl rfl rfl (by decide +kernel) ⟨Nat.le_of_ble_eq_true rfl, Nat.le_of_ble_eq_true rfl⟩) (pR_S (hP.sub (ws' := []) [] rfl) hK) rfl rfl hl.1 rfl (lv_room (Nat.le_of_ble_eq_true rfl)) dX6_costOf_2 ⟨Nat.le_of_ble_eq_true rfl, Nat.le_of_ble_eq_true rfl⟩) (fun _ h => h) hS rfl (fun locs hS => ?_)
  refine iv_eq (0) (by rw [if_neg (by omega)]) ?_
  refine iv_if_eq (tgt := 12) hx hb dX6_costOf_5 (by decide) (by omega) (fun c_5 => ?_) (fun c_5 => by exfalso; omega)
  refine iv_iconst hx hb dX6_costOf_12 ?_
  refine va_put (ci := 6) (ty := .int) hx hb hts inX6 tyX6 tyX6_ok nmX6 hown hK.1 hP (dm hD rfl) hS 0 rfl rfl 0 (by decide) (hts _ fl_X6_32) (fun _ h9 => h9) rfl (by decide +kernel) rfl rfl (Nat.le_of_ble_eq_true rfl) dX6_costOf_13 (fun H locs hP _ hS => ?_)
  have hP : va_P E.1 vwCl (refW E ρ 1 rc tl pa kd nm st hi ke tx wy) H := hP
  refine lv_aload_n hx hb dX6_costOf_16 rfl (lv_lk hl rfl) ?_
  refine va_get (D := E.1) (ci := 6) hx hb hts inX6 hown hK.1 hP 0 rfl rfl 0 (by decide) (hts _ fl_X6_32) (fun _ h9 => h9) rfl dX6_costOf_17 ?_
  refine iv_if_le (tgt := 27) hx hb dX6_costOf_20 (by decide) (by omega) (fun c_20 => by exfalso; omega) (fun c_20 => ?_)
  refine iv_iconst hx hb dX6_costOf_23 ?_
  refine lv_goto (tgt := 32) hx hb dX6_costOf_24 (by decide) ?_
  exact W.iret hx hb hrt (fun t ht hW => ⟨rfl, by rw [ht]; exact hP, hS.F ht⟩) hS.2.2 dX6_costOf_32 hlocks
set_option maxHeartbeats 4000000 in
set_option maxRecDepth 100000 in
theorem m_X6_ticksUntilTruth_ok (l : Launch) (E : Env3) (ρ : Nat → Nat) (th rc tl pa kd nm : Int) (st hi ke tx wy : S) (hρ : dR ρ 6) (T : Int) (hI : IB T st) (r : Nat) (hr : r < 36) (hT : T ≤ 99900) (K : Nat) (hK : K ≤ 99) (hKe : wouldIn st r K = truthF 7 st r) : Met l yX6_ticksUntilTruth (Cond.code yX6_ticksUntilTruth cX6_ticksUntilTruth 4 (some .int) :: ALL) ({ frames := 6, cells := 0, slots := 0, locals := 137 }) (pR [.ref (ρ 0), .int (I (r : Int))] E (refW E ρ th rc tl pa kd nm st hi ke tx wy)) (qX (some (.int (I (waitF 100 st r 0 : Int)))) E (refW E ρ th rc tl pa kd nm st hi ke tx wy) (fun (g : S × S) => (refW E ρ 0 rc tl pa kd nm st hi g.1 tx g.2))) 0 0 (adIn (refW E ρ th rc tl pa kd nm st hi ke tx wy)) := by
  refine mk_met (by decide) rfl (Nat.le_of_ble_eq_true rfl) ?_
  intro p e s m args below meth c hx hb hrt hml hts hown hlocks hnm hP hK ls hl
  have hown : s.vm.findClass RX6 = some m.cls := hown
  have hl : lv_has ls 4 [(0, .ref (ρ 0)), (1, .int (I (r : Int)))] := hl
  have hD : va_D (adIn (refW E ρ th rc tl pa kd nm st hi ke tx wy)) (refW E ρ th rc tl pa kd nm st hi ke tx wy) := D_of_dR hρ rfl
  have hS : va_S (adIn (refW E ρ th rc tl pa kd nm st hi ke tx wy)) s.heap s.heap [] := va_S.rf
  refine lv_aload_n hx hb dX6_ticksUntilTruth_0 rfl (lv_lk hl rfl) ?_
  refine lv_iload_n hx hb dX6_ticksUntilTruth_1 rfl (lv_lk hl rfl) ?_
  refine call_S (va_runS ⟨hx, hb, hml, hown, hts⟩ (m_X6_isRiddle l E ((r : Int)) (by omega)) (va_cwS 1 hts (gi_S ml_X6_64 st_X6_isRiddle it_X6 cd_X6_isRiddle) rfl rfl rfl (by decide +kernel) ⟨Nat.le_of_ble_eq_true rfl, Nat.le_of_ble_eq_true rfl⟩) (pR_S (hP.sub (ws' := []) [] rfl) hK) rfl rfl hl.1 rfl (lv_room (Nat.le_of_ble_eq_true rfl)) dX6_ticksUntilTruth_2 ⟨Nat.le_of_ble_eq_true rfl, Nat.le_of_ble_eq_true rfl⟩) (fun _ h => h) hS rfl (fun locs hS => ?_)
  refine iv_eq (1) (by rw [if_pos (by omega)]) ?_
  refine iv_if_eq (tgt := 12) hx hb dX6_ticksUntilTruth_5 (by decide) (by omega) (fun c_5 => by exfalso; omega) (fun c_5 => ?_)
  refine iv_iconst hx hb dX6_ticksUntilTruth_8 ?_
  refine lv_goto (tgt := 13) hx hb dX6_ticksUntilTruth_9 (by decide) ?_
  refine va_put (ci := 6) (ty := .int) hx hb hts inX6 tyX6 tyX6_ok nmX6 hown hK.1 hP (dm hD rfl) hS 0 rfl rfl 0 (by decide) (hts _ fl_X6_32) (fun _ h9 => h9) rfl (by decide +kernel) rfl rfl (Nat.le_of_ble_eq_true rfl) dX6_ticksUntilTruth_13 (fun H locs hP _ hS => ?_)
  have hP : va_P E.1 vwCl (refW E ρ 0 rc tl pa kd nm st hi ke tx wy) H := hP
  refine lv_aload_n hx hb dX6_ticksUntilTruth_16 rfl (lv_lk hl rfl) ?_
  refine va_get (D := E.1) (ci := 6) hx hb hts inX6 hown hK.1 hP 0 rfl rfl 0 (by decide) (hts _ fl_X6_32) (fun _ h9 => h9) rfl dX6_ticksUntilTruth_17 ?_
  refine iv_if_le (tgt := 25) hx hb dX6_ticksUntilTruth_20 (by decide) (by omega) (fun c_20 => ?_) (fun c_20 => by exfalso; omega)
  refine lv_aload_n hx hb dX6_ticksUntilTruth_25 rfl (lv_lk hl rfl) ?_
  refine lv_iload_n hx hb dX6_ticksUntilTruth_26 rfl (lv_lk hl rfl) ?_
  refine call_S (va_runV ⟨hx, hb, hml, hown, hts⟩ (m_X6_truth l E ρ 0 rc tl pa kd nm st hi ke tx wy T hI r hr) (cwV 1 hts (gi_V ml_X6_106 im_X6_truth sl_X6_truth it_X6 cd_X6_truth) rfl rfl rfl (by decide +kernel) ⟨Nat.le_of_ble_eq_true rfl, Nat.le_of_ble_eq_true rfl⟩) (pR_V (q0 := 0) (ci := 6) hP hK rfl rfl) rfl rfl hl.1 rfl (lv_room (Nat.le_of_ble_eq_true rfl)) dX6_ticksUntilTruth_27 ⟨Nat.le_of_ble_eq_true rfl, Nat.le_of_ble_eq_true rfl⟩) (fun _ h => h) hS rfl (fun locs hS => ?_)
  refine lv_istore_n (lv' := [(2, .int (I _)), (0, .ref _), (1, .int (I _))]) hx hb dX6_ticksUntilTruth_30 rfl hl (by decide) rfl (fun ls hl => ?_)
  refine iv_iconst hx hb dX6_ticksUntilTruth_31 ?_
  refine lv_istore_n (lv' := [(3, .int (I _)), (2, .int (I _)), (0, .ref _), (1, .int (I _))]) hx hb dX6_ticksUntilTruth_32 rfl hl (by decide) rfl (fun ls hl => ?_)
  have LOOP33 : ∀ (n9 i : Nat) (g1 : S × S), (i + n9 = 100) → (i ≤ K) → (waitF n9 st r i = waitF 100 st r 0) → ∀ (H : Heap) (locs : List Loc) (ls : Array Slot), va_P E.1 vwCl (refW E ρ 0 rc tl pa kd nm st hi g1.1 tx g1.2) H → va_S (adIn (refW E ρ th rc tl pa kd nm st hi ke tx wy)) s.heap H locs → lv_has ls 4 [(0, .ref (ρ 0)), (1, .int (I (r : Int))), (2, .int (I (truthF 7 st r))), (3, .int (I (i : Int)))] → W p l e ({ frames := 6, cells := 0, slots := 0, locals := 137 }) s m args below meth c H locs 0 0 (MQ below (qX (some (.int (I (waitF 100 st r 0 : Int)))) E (refW E ρ th rc tl pa kd nm st hi ke tx wy) (fun (g : S × S) => (refW E ρ 0 rc tl pa kd nm st hi g.1 tx g.2))) args s 0 0 (adIn (refW E ρ th rc tl pa kd nm st hi ke tx wy))) (F0 m 33 ls []) := by
    intro n9
    induction n9 with
    | zero =>
      intro  i g1 hi9 hi8 he9 H locs ls hP hS hl
      exact absurd hi8 (by omega)
    | succ n9 ih =>
      intro  i g1 hi9 hi8 he9 H locs ls hP hS hl
      have q1 := truth_rng hI 7 r hr
      have q2 : -2 ≤ wouldIn st r i ∧ wouldIn st r i ≤ 99 := solves_rng 7 (IB_passes hI i (by omega) (T + 100) (by omega)) r hr
      refine lv_aload_n hx hb dX6_ticksUntilTruth_33 rfl (lv_lk hl rfl) ?_
      refine lv_iload_n hx hb dX6_ticksUntilTruth_34 rfl (lv_lk hl rfl) ?_
      refine lv_iload_n hx hb dX6_ticksUntilTruth_35 rfl (lv_lk hl rfl) ?_
      refine call_X (va_runV ⟨hx, hb, hml, hown, hts⟩ (m_X6_wouldIn l E ρ 0 rc tl pa kd nm st hi g1.1 tx g1.2 hρ T hI r hr (i : Int) (by omega)) (cwV 2 hts (gi_V ml_X6_131 im_X6_wouldIn sl_X6_wouldIn it_X6 cd_X6_wouldIn) rfl rfl rfl (by decide +kernel) ⟨Nat.le_of_ble_eq_true rfl, Nat.le_of_ble_eq_true rfl⟩) (pR_V (q0 := 0) (ci := 6) hP hK rfl rfl) rfl rfl hl.1 rfl (lv_room (Nat.le_of_ble_eq_true rfl)) dX6_ticksUntilTruth_36 ⟨Nat.le_of_ble_eq_true rfl, Nat.le_of_ble_eq_true rfl⟩) (dm hD rfl) hS rfl (fun g2 H locs hP hS => ?_)
      have hP : va_P E.1 vwCl (refW E ρ 0 rc tl pa kd nm st hi g2.1 tx g2.2) H := hP
      refine lv_iload_n hx hb dX6_ticksUntilTruth_39 rfl (lv_lk hl rfl) ?_
      refine iv_icmp_eq (tgt := 49) hx hb dX6_ticksUntilTruth_40 (by decide) (by omega) (by omega) (fun c_40 => ?_) (fun c_40 => ?_)
      · refine lv_iload_n hx hb dX6_ticksUntilTruth_49 rfl (lv_lk hl rfl) ?_
        refine iv_eq ((waitF 100 st r 0 : Int)) (by rw [← he9, waitF_e c_40]) ?_
        exact W.iret hx hb hrt (fun t ht hW => ⟨rfl, ⟨(g2.1, g2.2), by rw [ht]; exact hP⟩, hS.F ht⟩) hS.2.2 dX6_ticksUntilTruth_50 hlocks
      · refine iv_iinc (k := 3) hx hb dX6_ticksUntilTruth_43 hl rfl (((i + 1 : Nat) : Int)) (by omega) (by decide) [(3, .int (I _)), (0, .ref _), (1, .int (I _)), (2, .int (I _))] rfl (fun ls hl => ?_)
        refine lv_goto (tgt := 33) hx hb dX6_ticksUntilTruth_46 (by decide) ?_
        exact ih (i + 1) g2 (by omega) (by by_cases e9 : i = K; (· subst e9; exact absurd hKe c_40); (· omega)) (by rw [← he9, waitF_s c_40]) H locs ls hP hS (lv_sub hl [1, 2, 3, 0] rfl)
  exact LOOP33 100 0 (ke, wy) (by omega) (by omega) rfl _ _ _ hP hS (lv_sub hl [2, 3, 1, 0] rfl)
set_option maxHeartbeats 4000000 in
set_option maxRecDepth 100000 in
theorem m_X6_ticksUntilTruth_bad (l : Launch) (E : Env3) (ρ : Nat → Nat) (th rc tl pa kd nm : Int) (st hi ke tx wy : S) (hρ : dR ρ 6) (v : Int) (hv : -2147483648 ≤ v ∧ v ≤ 2147483647) (hv2 : ¬ (0 ≤ v ∧ v ≤ 35)) : Met l yX6_ticksUntilTruth (Cond.code yX6_ticksUntilTruth cX6_ticksUntilTruth 4 (some .int) :: ALL) ({ frames := 6, cells := 0, slots := 0, locals := 137 }) (pR [.ref (ρ 0), .int (I v)] E (refW E ρ th rc tl pa kd nm st hi ke tx wy)) (qW (some (.int (I 0))) E (refW E ρ th rc tl pa kd nm st hi ke tx wy) (refW E ρ 1 rc tl pa kd nm st hi ke tx wy)) 0 0 (adIn (refW E ρ th rc tl pa kd nm st hi ke tx wy)) := by
  refine mk_met (by decide) rfl (Nat.le_of_ble_eq_true rfl) ?_
  intro p e s m args below meth c hx hb hrt hml hts hown hlocks hnm hP hK ls hl
  have hown : s.vm.findClass RX6 = some m.cls := hown
  have hl : lv_has ls 4 [(0, .ref (ρ 0)), (1, .int (I v))] := hl
  have hD : va_D (adIn (refW E ρ th rc tl pa kd nm st hi ke tx wy)) (refW E ρ th rc tl pa kd nm st hi ke tx wy) := D_of_dR hρ rfl
  have hS : va_S (adIn (refW E ρ th rc tl pa kd nm st hi ke tx wy)) s.heap s.heap [] := va_S.rf
  refine lv_aload_n hx hb dX6_ticksUntilTruth_0 rfl (lv_lk hl rfl) ?_
  refine lv_iload_n hx hb dX6_ticksUntilTruth_1 rfl (lv_lk hl rfl) ?_
  refine call_S (va_runS ⟨hx, hb, hml, hown, hts⟩ (m_X6_isRiddle l E v (by omega)) (va_cwS 1 hts (gi_S ml_X6_64 st_X6_isRiddle it_X6 cd_X6_isRiddle) rfl rfl rfl (by decide +kernel) ⟨Nat.le_of_ble_eq_true rfl, Nat.le_of_ble_eq_true rfl⟩) (pR_S (hP.sub (ws' := []) [] rfl) hK) rfl rfl hl.1 rfl (lv_room (Nat.le_of_ble_eq_true rfl)) dX6_ticksUntilTruth_2 ⟨Nat.le_of_ble_eq_true rfl, Nat.le_of_ble_eq_true rfl⟩) (fun _ h => h) hS rfl (fun locs hS => ?_)
  refine iv_eq (0) (by rw [if_neg (by omega)]) ?_
  refine iv_if_eq (tgt := 12) hx hb dX6_ticksUntilTruth_5 (by decide) (by omega) (fun c_5 => ?_) (fun c_5 => by exfalso; omega)
  refine iv_iconst hx hb dX6_ticksUntilTruth_12 ?_
  refine va_put (ci := 6) (ty := .int) hx hb hts inX6 tyX6 tyX6_ok nmX6 hown hK.1 hP (dm hD rfl) hS 0 rfl rfl 0 (by decide) (hts _ fl_X6_32) (fun _ h9 => h9) rfl (by decide +kernel) rfl rfl (Nat.le_of_ble_eq_true rfl) dX6_ticksUntilTruth_13 (fun H locs hP _ hS => ?_)
  have hP : va_P E.1 vwCl (refW E ρ 1 rc tl pa kd nm st hi ke tx wy) H := hP
  refine lv_aload_n hx hb dX6_ticksUntilTruth_16 rfl (lv_lk hl rfl) ?_
  refine va_get (D := E.1) (ci := 6) hx hb hts inX6 hown hK.1 hP 0 rfl rfl 0 (by decide) (hts _ fl_X6_32) (fun _ h9 => h9) rfl dX6_ticksUntilTruth_17 ?_
  refine iv_if_le (tgt := 25) hx hb dX6_ticksUntilTruth_20 (by decide) (by omega) (fun c_20 => by exfalso; omega) (fun c_20 => ?_)
  refine iv_iconst hx hb dX6_ticksUntilTruth_23 ?_
  exact W.iret hx hb hrt (fun t ht hW => ⟨rfl, by rw [ht]; exact hP, hS.F ht⟩) hS.2.2 dX6_ticksUntilTruth_24 hlocks
