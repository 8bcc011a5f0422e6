/-! the reference, first part; written by ref.py -/
set_option maxHeartbeats 4000000 in
set_option maxRecDepth 100000 in
theorem m_X6_within (l : Launch) (E : Env3) (v lo hi : Int) (hv : -2147483648 ≤ v ∧ v ≤ 2147483647) (hlo : -2147483648 ≤ lo ∧ lo ≤ 2147483647) (hhi : -2147483648 ≤ hi ∧ hi ≤ 2147483647) : Met l yX6_within (Cond.code yX6_within cX6_within 3 (some .boolean) :: ALL) ({ frames := 0, cells := 0, slots := 0, locals := 0 }) (pR [.int (I v), .int (I lo), .int (I hi)] E []) (qS (some (.int (I (if lo ≤ v ∧ v ≤ hi then 1 else 0))))) 0 0 (fun _ => False) := by
  refine mk_met (by decide) rfl (Nat.le_of_ble_eq_true rfl) ?_
  intro p e s m args below meth c hx hb hrt hml hts hown hlocks hnm hP hK ls hl
  have hown : s.vm.findClass RX6 = some m.cls := hown
  have hl : lv_has ls 3 [(0, .int (I v)), (1, .int (I lo)), (2, .int (I hi))] := hl
  have hS : va_S (fun _ => False) s.heap s.heap [] := va_S.rf
  refine lv_iload_n hx hb dX6_within_0 rfl (lv_lk hl rfl) ?_
  refine lv_iload_n hx hb dX6_within_1 rfl (lv_lk hl rfl) ?_
  refine iv_icmp_lt (tgt := 14) hx hb dX6_within_2 (by decide) (by omega) (by omega) (fun c_2 => ?_) (fun c_2 => ?_)
  · refine iv_iconst hx hb dX6_within_14 ?_
    refine iv_eq (if lo ≤ v ∧ v ≤ hi then 1 else 0) (by rw [if_neg (by omega)]) ?_
    exact W.zret (ty := .boolean) hx hb hrt bool_nar (fun t ht hW => ⟨rfl, ht⟩) hS.2.2 dX6_within_15 hlocks
  · refine lv_iload_n hx hb dX6_within_5 rfl (lv_lk hl rfl) ?_
    refine lv_iload_n hx hb dX6_within_6 rfl (lv_lk hl rfl) ?_
    refine iv_icmp_gt (tgt := 14) hx hb dX6_within_7 (by decide) (by omega) (by omega) (fun c_7 => ?_) (fun c_7 => ?_)
    · refine iv_iconst hx hb dX6_within_14 ?_
      refine iv_eq (if lo ≤ v ∧ v ≤ hi then 1 else 0) (by rw [if_neg (by omega)]) ?_
      exact W.zret (ty := .boolean) hx hb hrt bool_nar (fun t ht hW => ⟨rfl, ht⟩) hS.2.2 dX6_within_15 hlocks
    · refine iv_iconst hx hb dX6_within_10 ?_
      refine lv_goto (tgt := 15) hx hb dX6_within_11 (by decide) ?_
      refine iv_eq (if lo ≤ v ∧ v ≤ hi then 1 else 0) (by rw [if_pos ⟨by omega, by omega⟩]) ?_
      exact W.zret (ty := .boolean) hx hb hrt bool_nar (fun t ht hW => ⟨rfl, ht⟩) hS.2.2 dX6_within_15 hlocks
set_option maxHeartbeats 4000000 in
set_option maxRecDepth 100000 in
theorem m_X6_isZone (l : Launch) (E : Env3) (v : Int) (hv : -2147483648 ≤ v ∧ v ≤ 2147483647) : Met l yX6_isZone (Cond.code yX6_isZone cX6_isZone 1 (some .boolean) :: ALL) ({ frames := 1, cells := 0, slots := 0, locals := 22 }) (pR [.int (I v)] E []) (qS (some (.int (I (if 0 ≤ v ∧ v ≤ 5 then 1 else 0))))) 0 0 (fun _ => False) := by
  refine mk_met (by decide) rfl (Nat.le_of_ble_eq_true rfl) ?_
  intro p e s m args below meth c hx hb hrt hml hts hown hlocks hnm hP hK ls hl
  have hown : s.vm.findClass RX6 = some m.cls := hown
  have hl : lv_has ls 1 [(0, .int (I v))] := hl
  have hS : va_S (fun _ => False) s.heap s.heap [] := va_S.rf
  refine lv_iload_n hx hb dX6_isZone_0 rfl (lv_lk hl rfl) ?_
  refine iv_iconst hx hb dX6_isZone_1 ?_
  refine iv_iconst hx hb dX6_isZone_2 ?_
  refine call_S (va_runS ⟨hx, hb, hml, hown, hts⟩ (m_X6_within l E v 0 5 (by omega) (by omega) (by omega)) (va_cwS 3 hts (gi_S ml_X6_43 st_X6_within it_X6 cd_X6_within) rfl rfl rfl (by decide +kernel) ⟨Nat.le_of_ble_eq_true rfl, Nat.le_of_ble_eq_true rfl⟩) (pR_S hP hK) rfl rfl hl.1 rfl (lv_room (Nat.le_of_ble_eq_true rfl)) dX6_isZone_3 ⟨Nat.le_of_ble_eq_true rfl, Nat.le_of_ble_eq_true rfl⟩) (fun _ h => h) hS rfl (fun locs hS => ?_)
  exact W.zret (ty := .boolean) hx hb hrt bool_nar (fun t ht hW => ⟨rfl, ht⟩) hS.2.2 dX6_isZone_6 hlocks
set_option maxHeartbeats 4000000 in
set_option maxRecDepth 100000 in
theorem m_X6_isRiddle (l : Launch) (E : Env3) (v : Int) (hv : -2147483648 ≤ v ∧ v ≤ 2147483647) : Met l yX6_isRiddle (Cond.code yX6_isRiddle cX6_isRiddle 1 (some .boolean) :: ALL) ({ frames := 1, cells := 0, slots := 0, locals := 22 }) (pR [.int (I v)] E []) (qS (some (.int (I (if 0 ≤ v ∧ v ≤ 35 then 1 else 0))))) 0 0 (fun _ => False) := by
  refine mk_met (by decide) rfl (Nat.le_of_ble_eq_true rfl) ?_
  intro p e s m args below meth c hx hb hrt hml hts hown hlocks hnm hP hK ls hl
  have hown : s.vm.findClass RX6 = some m.cls := hown
  have hl : lv_has ls 1 [(0, .int (I v))] := hl
  have hS : va_S (fun _ => False) s.heap s.heap [] := va_S.rf
  refine lv_iload_n hx hb dX6_isRiddle_0 rfl (lv_lk hl rfl) ?_
  refine iv_iconst hx hb dX6_isRiddle_1 ?_
  refine iv_bipush hx hb dX6_isRiddle_2 (by decide +kernel) ?_
  refine call_S (va_runS ⟨hx, hb, hml, hown, hts⟩ (m_X6_within l E v 0 35 (by omega) (by omega) (by omega)) (va_cwS 3 hts (gi_S ml_X6_43 st_X6_within it_X6 cd_X6_within) rfl rfl rfl (by decide +kernel) ⟨Nat.le_of_ble_eq_true rfl, Nat.le_of_ble_eq_true rfl⟩) (pR_S hP hK) rfl rfl hl.1 rfl (lv_room (Nat.le_of_ble_eq_true rfl)) dX6_isRiddle_4 ⟨Nat.le_of_ble_eq_true rfl, Nat.le_of_ble_eq_true rfl⟩) (fun _ h => h) hS rfl (fun locs hS => ?_)
  exact W.zret (ty := .boolean) hx hb hrt bool_nar (fun t ht hW => ⟨rfl, ht⟩) hS.2.2 dX6_isRiddle_7 hlocks
set_option maxHeartbeats 4000000 in
set_option maxRecDepth 100000 in
theorem m_X6_isAge (l : Launch) (E : Env3) (v : Int) (hv : -2147483648 ≤ v ∧ v ≤ 2147483647) : Met l yX6_isAge (Cond.code yX6_isAge cX6_isAge 1 (some .boolean) :: ALL) ({ frames := 1, cells := 0, slots := 0, locals := 22 }) (pR [.int (I v)] E []) (qS (some (.int (I (if 1 ≤ v ∧ v ≤ 99 then 1 else 0))))) 0 0 (fun _ => False) := by
  refine mk_met (by decide) rfl (Nat.le_of_ble_eq_true rfl) ?_
  intro p e s m args below meth c hx hb hrt hml hts hown hlocks hnm hP hK ls hl
  have hown : s.vm.findClass RX6 = some m.cls := hown
  have hl : lv_has ls 1 [(0, .int (I v))] := hl
  have hS : va_S (fun _ => False) s.heap s.heap [] := va_S.rf
  refine lv_iload_n hx hb dX6_isAge_0 rfl (lv_lk hl rfl) ?_
  refine iv_iconst hx hb dX6_isAge_1 ?_
  refine iv_bipush hx hb dX6_isAge_2 (by decide +kernel) ?_
  refine call_S (va_runS ⟨hx, hb, hml, hown, hts⟩ (m_X6_within l E v 1 99 (by omega) (by omega) (by omega)) (va_cwS 3 hts (gi_S ml_X6_43 st_X6_within it_X6 cd_X6_within) rfl rfl rfl (by decide +kernel) ⟨Nat.le_of_ble_eq_true rfl, Nat.le_of_ble_eq_true rfl⟩) (pR_S hP hK) rfl rfl hl.1 rfl (lv_room (Nat.le_of_ble_eq_true rfl)) dX6_isAge_4 ⟨Nat.le_of_ble_eq_true rfl, Nat.le_of_ble_eq_true rfl⟩) (fun _ h => h) hS rfl (fun locs hS => ?_)
  exact W.zret (ty := .boolean) hx hb hrt bool_nar (fun t ht hW => ⟨rfl, ht⟩) hS.2.2 dX6_isAge_7 hlocks
set_option maxHeartbeats 4000000 in
set_option maxRecDepth 100000 in
theorem m_X6_ofZone (l : Launch) (E : Env3) (ρ : Nat → Nat) (th rc tl pa kd nm : Int) (st hi ke tx wy : S) (z k : Nat) (hz : z < 6) (hk : k < 5) : Met l yX6_ofZone (Cond.code yX6_ofZone cX6_ofZone 3 (some .int) :: ALL) ({ frames := 0, cells := 0, slots := 0, locals := 0 }) (pR [.ref (ρ 0), .int (I (z : Int)), .int (I (k : Int))] E (refW E ρ th rc tl pa kd nm st hi ke tx wy)) (qS (some (.int (I (st (6 + 5 * z + k)))))) 0 0 (fun _ => False) := by
  refine mk_met (by decide) rfl (Nat.le_of_ble_eq_true rfl) ?_
  intro p e s m args below meth c hx hb hrt hml hts hown hlocks hnm hP hK ls hl
  have hown : s.vm.findClass RX6 = some m.cls := hown
  have hl : lv_has ls 3 [(0, .ref (ρ 0)), (1, .int (I (z : Int))), (2, .int (I (k : Int)))] := hl
  have hS : va_S (fun _ => False) s.heap s.heap [] := va_S.rf
  refine lv_aload_n hx hb dX6_ofZone_0 rfl (lv_lk hl rfl) ?_
  refine va_get (D := E.1) (ci := 6) hx hb hts inX6 hown hK.1 hP 0 rfl rfl 1 (by decide) (hts _ fl_X6_7) (fun _ h9 => h9) rfl dX6_ofZone_1 ?_
  refine iv_bipush hx hb dX6_ofZone_4 (by decide +kernel) ?_
  refine iv_iconst hx hb dX6_ofZone_6 ?_
  refine lv_iload_n hx hb dX6_ofZone_7 rfl (lv_lk hl rfl) ?_
  refine iv_imul hx hb dX6_ofZone_8 ?_
  refine iv_iadd hx hb dX6_ofZone_9 ?_
  refine lv_iload_n hx hb dX6_ofZone_10 rfl (lv_lk hl rfl) ?_
  refine iv_iadd hx hb dX6_ofZone_11 ?_
  refine iv_iald hx hb hK hP 1 rfl (6 + 5 * z + k) (by omega) (by omega) dX6_ofZone_12 ?_
  exact W.iret hx hb hrt (fun t ht hW => ⟨rfl, ht⟩) hS.2.2 dX6_ofZone_13 hlocks
set_option maxHeartbeats 4000000 in
set_option maxRecDepth 100000 in
theorem m_X6_of (l : Launch) (E : Env3) (ρ : Nat → Nat) (th rc tl pa kd nm : Int) (st hi ke tx wy : S) (r k : Nat) (hr : r < 36) (hk : k < 6) : Met l yX6_of (Cond.code yX6_of cX6_of 3 (some .int) :: ALL) ({ frames := 0, cells := 0, slots := 0, locals := 0 }) (pR [.ref (ρ 0), .int (I (r : Int)), .int (I (k : Int))] E (refW E ρ th rc tl pa kd nm st hi ke tx wy)) (qS (some (.int (I (st (36 + 6 * r + k)))))) 0 0 (fun _ => False) := by
  refine mk_met (by decide) rfl (Nat.le_of_ble_eq_true rfl) ?_
  intro p e s m args below meth c hx hb hrt hml hts hown hlocks hnm hP hK ls hl
  have hown : s.vm.findClass RX6 = some m.cls := hown
  have hl : lv_has ls 3 [(0, .ref (ρ 0)), (1, .int (I (r : Int))), (2, .int (I (k : Int)))] := hl
  have hS : va_S (fun _ => False) s.heap s.heap [] := va_S.rf
  refine lv_aload_n hx hb dX6_of_0 rfl (lv_lk hl rfl) ?_
  refine va_get (D := E.1) (ci := 6) hx hb hts inX6 hown hK.1 hP 0 rfl rfl 1 (by decide) (hts _ fl_X6_7) (fun _ h9 => h9) rfl dX6_of_1 ?_
  refine iv_bipush hx hb dX6_of_4 (by decide +kernel) ?_
  refine iv_bipush hx hb dX6_of_6 (by decide +kernel) ?_
  refine lv_iload_n hx hb dX6_of_8 rfl (lv_lk hl rfl) ?_
  refine iv_imul hx hb dX6_of_9 ?_
  refine iv_iadd hx hb dX6_of_10 ?_
  refine lv_iload_n hx hb dX6_of_11 rfl (lv_lk hl rfl) ?_
  refine iv_iadd hx hb dX6_of_12 ?_
  refine iv_iald hx hb hK hP 1 rfl (36 + 6 * r + k) (by omega) (by omega) dX6_of_13 ?_
  exact W.iret hx hb hrt (fun t ht hW => ⟨rfl, ht⟩) hS.2.2 dX6_of_14 hlocks
set_option maxHeartbeats 4000000 in
set_option maxRecDepth 100000 in
theorem m_X6_putsZone (l : Launch) (E : Env3) (ρ : Nat → Nat) (th rc tl pa kd nm : Int) (st hi ke tx wy : S) (hρ : dR ρ 6) (z k : Nat) (v : Int) (hz : z < 6) (hk : k < 5) : Met l yX6_putsZone (Cond.code yX6_putsZone cX6_putsZone 4 none :: ALL) ({ frames := 0, cells := 0, slots := 0, locals := 0 }) (pR [.ref (ρ 0), .int (I (z : Int)), .int (I (k : Int)), .int (I v)] E (refW E ρ th rc tl pa kd nm st hi ke tx wy)) (qW none E (refW E ρ th rc tl pa kd nm st hi ke tx wy) (refW E ρ th rc tl pa kd nm (up st (6 + 5 * z + k) v) hi ke tx wy)) 0 0 (adIn (refW E ρ th rc tl pa kd nm st hi ke tx wy)) := by
  refine mk_met (by decide) rfl (Nat.le_of_ble_eq_true rfl) ?_
  intro p e s m args below meth c hx hb hrt hml hts hown hlocks hnm hP hK ls hl
  have hown : s.vm.findClass RX6 = some m.cls := hown
  have hl : lv_has ls 4 [(0, .ref (ρ 0)), (1, .int (I (z : Int))), (2, .int (I (k : Int))), (3, .int (I v))] := hl
  have hD : va_D (adIn (refW E ρ th rc tl pa kd nm st hi ke tx wy)) (refW E ρ th rc tl pa kd nm st hi ke tx wy) := D_of_dR hρ rfl
  have hS : va_S (adIn (refW E ρ th rc tl pa kd nm st hi ke tx wy)) s.heap s.heap [] := va_S.rf
  refine lv_aload_n hx hb dX6_putsZone_0 rfl (lv_lk hl rfl) ?_
  refine va_get (D := E.1) (ci := 6) hx hb hts inX6 hown hK.1 hP 0 rfl rfl 1 (by decide) (hts _ fl_X6_7) (fun _ h9 => h9) rfl dX6_putsZone_1 ?_
  refine iv_bipush hx hb dX6_putsZone_4 (by decide +kernel) ?_
  refine iv_iconst hx hb dX6_putsZone_6 ?_
  refine lv_iload_n hx hb dX6_putsZone_7 rfl (lv_lk hl rfl) ?_
  refine iv_imul hx hb dX6_putsZone_8 ?_
  refine iv_iadd hx hb dX6_putsZone_9 ?_
  refine lv_iload_n hx hb dX6_putsZone_10 rfl (lv_lk hl rfl) ?_
  refine iv_iadd hx hb dX6_putsZone_11 ?_
  refine lv_iload_n hx hb dX6_putsZone_12 rfl (lv_lk hl rfl) ?_
  refine iv_iast hx hb hK hP (dm hD rfl) hS 1 rfl (6 + 5 * z + k) (by omega) (by omega) dX6_putsZone_13 (refW E ρ th rc tl pa kd nm (up st (6 + 5 * z + k) v) hi ke tx wy) (rfl) (fun H locs hP hS => ?_)
  exact W.vret hx hb hrt (fun t ht hW => ⟨rfl, by rw [ht]; exact hP, hS.F ht⟩) hS.2.2 dX6_putsZone_14 hlocks
set_option maxHeartbeats 4000000 in
set_option maxRecDepth 100000 in
theorem m_X6_puts (l : Launch) (E : Env3) (ρ : Nat → Nat) (th rc tl pa kd nm : Int) (st hi ke tx wy : S) (hρ : dR ρ 6) (r k : Nat) (v : Int) (hr : r < 36) (hk : k < 6) : Met l yX6_puts (Cond.code yX6_puts cX6_puts 4 none :: ALL) ({ frames := 0, cells := 0, slots := 0, locals := 0 }) (pR [.ref (ρ 0), .int (I (r : Int)), .int (I (k : Int)), .int (I v)] E (refW E ρ th rc tl pa kd nm st hi ke tx wy)) (qW none E (refW E ρ th rc tl pa kd nm st hi ke tx wy) (refW E ρ th rc tl pa kd nm (up st (36 + 6 * r + k) v) hi ke tx wy)) 0 0 (adIn (refW E ρ th rc tl pa kd nm st hi ke tx wy)) := by
  refine mk_met (by decide) rfl (Nat.le_of_ble_eq_true rfl) ?_
  intro p e s m args below meth c hx hb hrt hml hts hown hlocks hnm hP hK ls hl
  have hown : s.vm.findClass RX6 = some m.cls := hown
  have hl : lv_has ls 4 [(0, .ref (ρ 0)), (1, .int (I (r : Int))), (2, .int (I (k : Int))), (3, .int (I v))] := hl
  have hD : va_D (adIn (refW E ρ th rc tl pa kd nm st hi ke tx wy)) (refW E ρ th rc tl pa kd nm st hi ke tx wy) := D_of_dR hρ rfl
  have hS : va_S (adIn (refW E ρ th rc tl pa kd nm st hi ke tx wy)) s.heap s.heap [] := va_S.rf
  refine lv_aload_n hx hb dX6_puts_0 rfl (lv_lk hl rfl) ?_
  refine va_get (D := E.1) (ci := 6) hx hb hts inX6 hown hK.1 hP 0 rfl rfl 1 (by decide) (hts _ fl_X6_7) (fun _ h9 => h9) rfl dX6_puts_1 ?_
  refine iv_bipush hx hb dX6_puts_4 (by decide +kernel) ?_
  refine iv_bipush hx hb dX6_puts_6 (by decide +kernel) ?_
  refine lv_iload_n hx hb dX6_puts_8 rfl (lv_lk hl rfl) ?_
  refine iv_imul hx hb dX6_puts_9 ?_
  refine iv_iadd hx hb dX6_puts_10 ?_
  refine lv_iload_n hx hb dX6_puts_11 rfl (lv_lk hl rfl) ?_
  refine iv_iadd hx hb dX6_puts_12 ?_
  refine lv_iload_n hx hb dX6_puts_13 rfl (lv_lk hl rfl) ?_
  refine iv_iast hx hb hK hP (dm hD rfl) hS 1 rfl (36 + 6 * r + k) (by omega) (by omega) dX6_puts_14 (refW E ρ th rc tl pa kd nm (up st (36 + 6 * r + k) v) hi ke tx wy) (rfl) (fun H locs hP hS => ?_)
  exact W.vret hx hb hrt (fun t ht hW => ⟨rfl, by rw [ht]; exact hP, hS.F ht⟩) hS.2.2 dX6_puts_15 hlocks
set_option maxHeartbeats 4000000 in
set_option maxRecDepth 100000 in
theorem m_X6_lays (l : Launch) (E : Env3) (a b nA nB f t : Nat) (g h : S) (hab : a ≠ b) (hf : f + 252 ≤ nA ∧ nA ≤ 2000) (ht : t + 252 ≤ nB ∧ nB ≤ 2000) : Met l yX6_lays (Cond.code yX6_lays cX6_lays 5 none :: ALL) ({ frames := 0, cells := 0, slots := 0, locals := 0 }) (pR [.ref a, .int (I (f : Int)), .ref b, .int (I (t : Int))] E [(a, iA E nA g), (b, iA E nB h)]) (qW none E [(a, iA E nA g), (b, iA E nB h)] [(a, iA E nA g), (b, iA E nB (layN g f h t 252))]) 0 0 (adIn [(a, iA E nA g), (b, iA E nB h)]) := by
  refine mk_met (by decide) rfl (Nat.le_of_ble_eq_true rfl) ?_
  intro p e s m args below meth c hx hb hrt hml hts hown hlocks hnm hP hK ls hl
  have hown : s.vm.findClass RX6 = some m.cls := hown
  have hl : lv_has ls 5 [(0, .ref a), (1, .int (I (f : Int))), (2, .ref b), (3, .int (I (t : Int)))] := hl
  have hD : va_D (adIn [(a, iA E nA g), (b, iA E nB h)]) [(a, iA E nA g), (b, iA E nB h)] := D_2 hab
  have hS : va_S (adIn [(a, iA E nA g), (b, iA E nB h)]) s.heap s.heap [] := va_S.rf
  refine iv_iconst hx hb dX6_lays_0 ?_
  refine lv_istore (lv' := [(4, .int (I _)), (0, .ref _), (1, .int (I _)), (2, .ref _), (3, .int (I _))]) hx hb dX6_lays_1 hl (by decide) rfl (fun ls hl => ?_)
  have LOOP3 : ∀ (n9 i : Nat), (i + n9 = 252) → ∀ (H : Heap) (locs : List Loc) (ls : Array Slot), va_P E.1 vwCl [(a, iA E nA g), (b, iA E nB (layN g f h t i))] H → va_S (adIn [(a, iA E nA g), (b, iA E nB h)]) s.heap H locs → lv_has ls 5 [(0, .ref a), (1, .int (I (f : Int))), (2, .ref b), (3, .int (I (t : Int))), (4, .int (I (i : Int)))] → W p l e ({ frames := 0, cells := 0, slots := 0, locals := 0 }) s m args below meth c H locs 0 0 (MQ below (qW none E [(a, iA E nA g), (b, iA E nB h)] [(a, iA E nA g), (b, iA E nB (layN g f h t 252))]) args s 0 0 (adIn [(a, iA E nA g), (b, iA E nB h)])) (F0 m 3 ls []) := by
    intro n9
    induction n9 with
    | zero =>
      intro i  hi H locs ls hP hS hl
      refine lv_iload hx hb dX6_lays_3 (lv_lk hl rfl) ?_
      refine iv_sipush hx hb dX6_lays_5 (by decide +kernel) ?_
      refine iv_icmp_ge (tgt := 29) hx hb dX6_lays_8 (by decide) (by omega) (by omega) (fun c_8 => ?_) (fun c_8 => by exfalso; omega)
      exact W.vret hx hb hrt (fun t ht hW => ⟨rfl, by rw [ht]; exact (by rw [show (252 : Nat) = i by omega]; exact hP), hS.F ht⟩) hS.2.2 dX6_lays_29 hlocks
    | succ n9 ih =>
      intro i  hi H locs ls hP hS hl
      refine lv_iload hx hb dX6_lays_3 (lv_lk hl rfl) ?_
      refine iv_sipush hx hb dX6_lays_5 (by decide +kernel) ?_
      refine iv_icmp_ge (tgt := 29) hx hb dX6_lays_8 (by decide) (by omega) (by omega) (fun c_8 => by exfalso; omega) (fun c_8 => ?_)
      refine lv_aload_n hx hb dX6_lays_11 rfl (lv_lk hl rfl) ?_
      refine lv_iload_n hx hb dX6_lays_12 rfl (lv_lk hl rfl) ?_
      refine lv_iload hx hb dX6_lays_13 (lv_lk hl rfl) ?_
      refine iv_iadd hx hb dX6_lays_15 ?_
      refine lv_aload_n hx hb dX6_lays_16 rfl (lv_lk hl rfl) ?_
      refine lv_iload_n hx hb dX6_lays_17 rfl (lv_lk hl rfl) ?_
      refine lv_iload hx hb dX6_lays_18 (lv_lk hl rfl) ?_
      refine iv_iadd hx hb dX6_lays_20 ?_
      refine iv_iald hx hb hK hP 0 rfl (f + i) (by omega) (by omega) dX6_lays_21 ?_
      refine iv_iast hx hb hK hP (dm hD rfl) hS 1 rfl (t + i) (by omega) (by omega) dX6_lays_22 [(a, iA E nA g), (b, iA E nB (layN g f h t (i + 1)))] (by rw [← layN_s]; rfl) (fun H locs hP hS => ?_)
      refine iv_iinc (k := 4) hx hb dX6_lays_23 hl rfl (((i + 1 : Nat) : Int)) (by omega) (by decide) [(4, .int (I _)), (0, .ref _), (1, .int (I _)), (2, .ref _), (3, .int (I _))] rfl (fun ls hl => ?_)
      refine lv_goto (tgt := 3) hx hb dX6_lays_26 (by decide) ?_
      exact ih (i + 1) (by omega) H locs ls hP hS (lv_sub hl [1, 2, 3, 4, 0] rfl)
  exact LOOP3 252 0 (by omega) _ _ _ (by rw [layN_0]; exact hP) hS (lv_sub hl [1, 2, 3, 4, 0] rfl)
