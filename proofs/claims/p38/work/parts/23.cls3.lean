/-! the class: State, first part; written by cls.py -/
set_option maxHeartbeats 4000000 in
set_option maxRecDepth 100000 in
theorem m_X4_stepsToRoot (l : Launch) (E : Env3) (α : Nat → Nat) (st : S) (T : Int) (hI : IB T st) (z : Nat) (hz : z < 6) : Met l yX4_stepsToRoot (Cond.code yX4_stepsToRoot cX4_stepsToRoot 4 (some .int) :: ALL) ({ frames := 1, cells := 0, slots := 0, locals := 21 }) (pR [.ref (α 1), .int (I (z : Int))] E [(α 1, .inr (4, [.ref (α 2), .ref (α 3), .ref (α 4)])), (α 2, iA E 6 (cP st)), (α 3, iA E 6 (cRA st)), (α 4, iA E 6 (cRU st))]) (qS (some (.int (I (depthF 6 st z))))) 0 0 (fun _ => False) := by
  refine mk_met (by decide) rfl (Nat.le_of_ble_eq_true rfl) ?_
  intro p e s m args below meth c hx hb hrt hml hts hown hlocks hnm hP hK ls hl
  have hown : s.vm.findClass RX4 = some m.cls := hown
  have hl : lv_has ls 4 [(0, .ref (α 1)), (1, .int (I (z : Int)))] := hl
  have hS : va_S (fun _ => False) s.heap s.heap [] := va_S.rf
  refine iv_iconst hx hb dX4_stepsToRoot_0 ?_
  refine lv_istore_n (lv' := [(2, .int (I _)), (0, .ref _), (1, .int (I _))]) hx hb dX4_stepsToRoot_1 rfl hl (by decide) rfl (fun ls hl => ?_)
  refine lv_iload_n hx hb dX4_stepsToRoot_2 rfl (lv_lk hl rfl) ?_
  refine lv_istore_n (lv' := [(3, .int (I _)), (2, .int (I _)), (0, .ref _), (1, .int (I _))]) hx hb dX4_stepsToRoot_3 rfl hl (by decide) rfl (fun ls hl => ?_)
  have LOOP4 : ∀ (n9 i : Nat) (y : Nat), (y ≤ n9 ∧ y < 6) → (i + y ≤ 5) → ((i : Int) + depthF 6 st y = depthF 6 st z) → ∀ (locs : List Loc) (ls : Array Slot), va_S (fun _ => False) s.heap s.heap locs → lv_has ls 4 [(0, .ref (α 1)), (1, .int (I (z : Int))), (2, .int (I (i : Int))), (3, .int (I (y : Int)))] → W p l e ({ frames := 1, cells := 0, slots := 0, locals := 21 }) s m args below meth c s.heap locs 0 0 (MQ below (qS (some (.int (I (depthF 6 st z))))) args s 0 0 (fun _ => False)) (F0 m 4 ls []) := by
    intro n9
    induction n9 with
    | zero =>
      intro  i y hy hi9 he9 locs ls hS hl
      refine lv_iload_n hx hb dX4_stepsToRoot_4 rfl (lv_lk hl rfl) ?_
      refine iv_if_eq (tgt := 29) hx hb dX4_stepsToRoot_5 (by decide) (by omega) (fun c_5 => ?_) (fun c_5 => by exfalso; omega)
      refine lv_iload_n hx hb dX4_stepsToRoot_29 rfl (lv_lk hl rfl) ?_
      refine iv_eq (depthF 6 st z) (by rw [← he9, show y = 0 by omega, depth_0]; omega) ?_
      exact W.iret hx hb hrt (fun t ht hW => ⟨rfl, ht⟩) hS.2.2 dX4_stepsToRoot_30 hlocks
    | succ n9 ih =>
      intro  i y hy hi9 he9 locs ls hS hl
      refine lv_iload_n hx hb dX4_stepsToRoot_4 rfl (lv_lk hl rfl) ?_
      refine iv_if_eq (tgt := 29) hx hb dX4_stepsToRoot_5 (by decide) (by omega) (fun c_5 => ?_) (fun c_5 => ?_)
      · refine lv_iload_n hx hb dX4_stepsToRoot_29 rfl (lv_lk hl rfl) ?_
        refine iv_eq (depthF 6 st z) (by rw [← he9, show y = 0 by omega, depth_0]; omega) ?_
        exact W.iret hx hb hrt (fun t ht hW => ⟨rfl, ht⟩) hS.2.2 dX4_stepsToRoot_30 hlocks
      · refine lv_iload_n hx hb dX4_stepsToRoot_8 rfl (lv_lk hl rfl) ?_
        refine iv_bipush hx hb dX4_stepsToRoot_9 (by decide +kernel) ?_
        refine iv_icmp_ge (tgt := 29) hx hb dX4_stepsToRoot_11 (by decide) (by omega) (by omega) (fun c_11 => by exfalso; omega) (fun c_11 => ?_)
        refine lv_aload_n hx hb dX4_stepsToRoot_14 rfl (lv_lk hl rfl) ?_
        refine va_get (D := E.1) (ci := 4) hx hb hts inX4 hown hK.1 hP 0 rfl rfl 0 (by decide) (hts _ fl_X4_9) (fun _ h9 => h9) rfl dX4_stepsToRoot_15 ?_
        refine lv_iload_n hx hb dX4_stepsToRoot_18 rfl (lv_lk hl rfl) ?_
        refine call_S (va_runSN ⟨hx, hb, hml, hown, hts⟩ (m_X5_read l E (α 2) 6 y (cP st) (by omega) (by omega)) ⟨va_cnB 2 hts (gi_all cd_X5_read) rfl rfl rfl (nwK hK 5 rfl) (hts _ it_X5) (by decide +kernel) ⟨Nat.le_of_ble_eq_true rfl, Nat.le_of_ble_eq_true rfl⟩, hts _ st_X5_read, trivial⟩ (pR_S (hP.sub (ws' := [(α 2, iA E 6 (cP st))]) [1] rfl) hK) rfl rfl hl.1 rfl (lv_room (Nat.le_of_ble_eq_true rfl)) dX4_stepsToRoot_19 ⟨Nat.le_of_ble_eq_true rfl, Nat.le_of_ble_eq_true rfl⟩) (fun _ h => h) hS rfl (fun locs hS => ?_)
        refine iv_eq ((par st y : Int)) ((IB_par hI (z := y) (by omega) hy.2).1) ?_
        refine lv_istore_n (lv' := [(3, .int (I _)), (0, .ref _), (1, .int (I _)), (2, .int (I _))]) hx hb dX4_stepsToRoot_22 rfl hl (by decide) rfl (fun ls hl => ?_)
        refine iv_iinc (k := 3) hx hb dX4_stepsToRoot_23 hl rfl (((i + 1 : Nat) : Int)) (by omega) (by decide) [(2, .int (I _)), (3, .int (I _)), (0, .ref _), (1, .int (I _))] rfl (fun ls hl => ?_)
        refine lv_goto (tgt := 4) hx hb dX4_stepsToRoot_26 (by decide) ?_
        exact ih (i + 1) (par st y) (by have := (IB_par hI (z := y) (by omega) hy.2).2; omega) (by have := (IB_par hI (z := y) (by omega) hy.2).2; omega) (by rw [← he9, depth_s hI hy.2 (by omega)]; omega) locs ls hS (lv_sub hl [2, 3, 0, 1] rfl)
  exact LOOP4 z 0 z ⟨Nat.le_refl _, hz⟩ (by omega) (by omega) _ _ hS (lv_sub hl [2, 3, 1, 0] rfl)
set_option maxHeartbeats 4000000 in
set_option maxRecDepth 100000 in
theorem m_X3_hasRoomFor (l : Launch) (E : Env3) (α : Nat → Nat) (st : S) (t : Int) (h0 : 0 ≤ st 0 ∧ st 0 ≤ 1000000) (ht : 0 ≤ t ∧ t ≤ 1000000) : Met l yX3_hasRoomFor (Cond.code yX3_hasRoomFor cX3_hasRoomFor 2 (some .boolean) :: ALL) ({ frames := 0, cells := 0, slots := 0, locals := 0 }) (pR [.ref (α 0), .int (I t)] E (stW E α st)) (qS (some (.int (I (if st 0 + t ≤ 9999 then 1 else 0))))) 0 0 (fun _ => False) := by
  refine mk_met (by decide) rfl (Nat.le_of_ble_eq_true rfl) ?_
  intro p e s m args below meth c hx hb hrt hml hts hown hlocks hnm hP hK ls hl
  have hown : s.vm.findClass RX3 = some m.cls := hown
  have hl : lv_has ls 2 [(0, .ref (α 0)), (1, .int (I t))] := hl
  have hS : va_S (fun _ => False) s.heap s.heap [] := va_S.rf
  refine lv_aload_n hx hb dX3_hasRoomFor_0 rfl (lv_lk hl rfl) ?_
  refine va_get (D := E.1) (ci := 3) hx hb hts inX3 hown hK.1 hP 0 rfl rfl 0 (by decide) (hts _ fl_X3_39) (fun _ h9 => h9) rfl dX3_hasRoomFor_1 ?_
  refine lv_iload_n hx hb dX3_hasRoomFor_4 rfl (lv_lk hl rfl) ?_
  refine iv_iadd hx hb dX3_hasRoomFor_5 ?_
  refine iv_sipush hx hb dX3_hasRoomFor_6 (by decide +kernel) ?_
  refine iv_icmp_gt (tgt := 16) hx hb dX3_hasRoomFor_9 (by decide) (by omega) (by omega) (fun c_9 => ?_) (fun c_9 => ?_)
  · refine iv_iconst hx hb dX3_hasRoomFor_16 ?_
    refine iv_eq (if st 0 + t ≤ 9999 then 1 else 0) (by rw [if_neg (by omega)]) ?_
    exact W.zret (ty := .boolean) hx hb hrt bool_nar (fun t ht hW => ⟨rfl, ht⟩) hS.2.2 dX3_hasRoomFor_17 hlocks
  · refine iv_iconst hx hb dX3_hasRoomFor_12 ?_
    refine lv_goto (tgt := 17) hx hb dX3_hasRoomFor_13 (by decide) ?_
    refine iv_eq (if st 0 + t ≤ 9999 then 1 else 0) (by rw [if_pos (by omega)]) ?_
    exact W.zret (ty := .boolean) hx hb hrt bool_nar (fun t ht hW => ⟨rfl, ht⟩) hS.2.2 dX3_hasRoomFor_17 hlocks
set_option maxHeartbeats 4000000 in
set_option maxRecDepth 100000 in
theorem m_X3_isOver (l : Launch) (E : Env3) (α : Nat → Nat) (st : S) (e9 : Int) (h0 : 0 ≤ st 0 ∧ st 0 ≤ 1000000) (ht : 0 ≤ e9 ∧ e9 ≤ 1000000) : Met l yX3_isOver (Cond.code yX3_isOver cX3_isOver 2 (some .boolean) :: ALL) ({ frames := 0, cells := 0, slots := 0, locals := 0 }) (pR [.ref (α 0), .int (I e9)] E (stW E α st)) (qS (some (.int (I (if ¬ e9 = 0 ∧ e9 ≤ st 0 then 1 else 0))))) 0 0 (fun _ => False) := by
  refine mk_met (by decide) rfl (Nat.le_of_ble_eq_true rfl) ?_
  intro p e s m args below meth c hx hb hrt hml hts hown hlocks hnm hP hK ls hl
  have hown : s.vm.findClass RX3 = some m.cls := hown
  have hl : lv_has ls 2 [(0, .ref (α 0)), (1, .int (I e9))] := hl
  have hS : va_S (fun _ => False) s.heap s.heap [] := va_S.rf
  refine lv_iload_n hx hb dX3_isOver_0 rfl (lv_lk hl rfl) ?_
  refine iv_if_eq (tgt := 16) hx hb dX3_isOver_1 (by decide) (by omega) (fun c_1 => ?_) (fun c_1 => ?_)
  · refine iv_iconst hx hb dX3_isOver_16 ?_
    refine iv_eq (if ¬ e9 = 0 ∧ e9 ≤ st 0 then 1 else 0) (by rw [if_neg (by omega)]) ?_
    exact W.zret (ty := .boolean) hx hb hrt bool_nar (fun t ht hW => ⟨rfl, ht⟩) hS.2.2 dX3_isOver_17 hlocks
  · refine lv_iload_n hx hb dX3_isOver_4 rfl (lv_lk hl rfl) ?_
    refine lv_aload_n hx hb dX3_isOver_5 rfl (lv_lk hl rfl) ?_
    refine va_get (D := E.1) (ci := 3) hx hb hts inX3 hown hK.1 hP 0 rfl rfl 0 (by decide) (hts _ fl_X3_39) (fun _ h9 => h9) rfl dX3_isOver_6 ?_
    refine iv_icmp_gt (tgt := 16) hx hb dX3_isOver_9 (by decide) (by omega) (by omega) (fun c_9 => ?_) (fun c_9 => ?_)
    · refine iv_iconst hx hb dX3_isOver_16 ?_
      refine iv_eq (if ¬ e9 = 0 ∧ e9 ≤ st 0 then 1 else 0) (by rw [if_neg (by omega)]) ?_
      exact W.zret (ty := .boolean) hx hb hrt bool_nar (fun t ht hW => ⟨rfl, ht⟩) hS.2.2 dX3_isOver_17 hlocks
    · refine iv_iconst hx hb dX3_isOver_12 ?_
      refine lv_goto (tgt := 17) hx hb dX3_isOver_13 (by decide) ?_
      refine iv_eq (if ¬ e9 = 0 ∧ e9 ≤ st 0 then 1 else 0) (by rw [if_pos (by omega)]) ?_
      exact W.zret (ty := .boolean) hx hb hrt bool_nar (fun t ht hW => ⟨rfl, ht⟩) hS.2.2 dX3_isOver_17 hlocks
set_option maxHeartbeats 4000000 in
set_option maxRecDepth 100000 in
theorem m_X3_ticksTo (l : Launch) (E : Env3) (α : Nat → Nat) (st : S) (e9 : Int) (ht : 0 ≤ e9 ∧ e9 ≤ 1000000) : Met l yX3_ticksTo (Cond.code yX3_ticksTo cX3_ticksTo 2 (some .int) :: ALL) ({ frames := 0, cells := 0, slots := 0, locals := 0 }) (pR [.ref (α 0), .int (I e9)] E (stW E α st)) (qS (some (.int (I (left st e9))))) 0 0 (fun _ => False) := by
  refine mk_met (by decide) rfl (Nat.le_of_ble_eq_true rfl) ?_
  intro p e s m args below meth c hx hb hrt hml hts hown hlocks hnm hP hK ls hl
  have hown : s.vm.findClass RX3 = some m.cls := hown
  have hl : lv_has ls 2 [(0, .ref (α 0)), (1, .int (I e9))] := hl
  have hS : va_S (fun _ => False) s.heap s.heap [] := va_S.rf
  refine lv_iload_n hx hb dX3_ticksTo_0 rfl (lv_lk hl rfl) ?_
  refine iv_if_ne (tgt := 8) hx hb dX3_ticksTo_1 (by decide) (by omega) (fun c_1 => ?_) (fun c_1 => ?_)
  · refine lv_iload_n hx hb dX3_ticksTo_8 rfl (lv_lk hl rfl) ?_
    refine lv_aload_n hx hb dX3_ticksTo_9 rfl (lv_lk hl rfl) ?_
    refine va_get (D := E.1) (ci := 3) hx hb hts inX3 hown hK.1 hP 0 rfl rfl 0 (by decide) (hts _ fl_X3_39) (fun _ h9 => h9) rfl dX3_ticksTo_10 ?_
    refine iv_isub hx hb dX3_ticksTo_13 ?_
    refine iv_eq (left st e9) (by rw [left, if_neg c_1]) ?_
    exact W.iret hx hb hrt (fun t ht hW => ⟨rfl, ht⟩) hS.2.2 dX3_ticksTo_14 hlocks
  · refine iv_iconst hx hb dX3_ticksTo_4 ?_
    refine lv_goto (tgt := 14) hx hb dX3_ticksTo_5 (by decide) ?_
    refine iv_eq (left st e9) (by rw [left, if_pos c_1]) ?_
    exact W.iret hx hb hrt (fun t ht hW => ⟨rfl, ht⟩) hS.2.2 dX3_ticksTo_14 hlocks
set_option maxHeartbeats 4000000 in
set_option maxRecDepth 100000 in
theorem m_X3_dropReply (l : Launch) (E : Env3) (α : Nat → Nat) (st : S) (hα : dR α 16) (r : Nat) (hr : r < 36) : Met l yX3_dropReply (Cond.code yX3_dropReply cX3_dropReply 2 none :: ALL) ({ frames := 2, cells := 0, slots := 0, locals := 46 }) (pR [.ref (α 0), .int (I (r : Int))] E (stW E α st)) (qW none E (stW E α st) (stW E α (forg st r))) 0 0 (adIn (stW E α st)) := by
  refine mk_met (by decide) rfl (Nat.le_of_ble_eq_true rfl) ?_
  intro p e s m args below meth c hx hb hrt hml hts hown hlocks hnm hP hK ls hl
  have hown : s.vm.findClass RX3 = some m.cls := hown
  have hl : lv_has ls 2 [(0, .ref (α 0)), (1, .int (I (r : Int)))] := hl
  have hD : va_D (adIn (stW E α st)) (stW E α st) := D_of_dR hα rfl
  have hS : va_S (adIn (stW E α st)) s.heap s.heap [] := va_S.rf
  refine lv_aload_n hx hb dX3_dropReply_0 rfl (lv_lk hl rfl) ?_
  refine va_get (D := E.1) (ci := 3) hx hb hts inX3 hown hK.1 hP 0 rfl rfl 3 (by decide) (hts _ fl_X3_25) (fun _ h9 => h9) rfl dX3_dropReply_1 ?_
  refine lv_iload_n hx hb dX3_dropReply_4 rfl (lv_lk hl rfl) ?_
  refine iv_iconst hx hb dX3_dropReply_5 ?_
  refine iv_iconst hx hb dX3_dropReply_6 ?_
  refine iv_iconst hx hb dX3_dropReply_7 ?_
  refine call_W (va_runV ⟨hx, hb, hml, hown, hts⟩ (m_X2_put l E (α 9) (α 10) (α 11) (α 12) (mK st) (mV st) (mE st) (((dm (ws' := stW E α st) hD rfl).sub (ws' := (repW E (α 9) (α 10) (α 11) (α 12) (mK st) (mV st) (mE st))) [9, 10, 11, 12] (by decide) rfl).weaken (fun _ _ _ _ => trivial)) r (by omega) 0 (-1) 0) (cwV 4 hts (gi_V ml_X3_108 im_X2_put sl_X2_put it_X2 cd_X2_put) rfl rfl rfl (by decide +kernel) ⟨Nat.le_of_ble_eq_true rfl, Nat.le_of_ble_eq_true rfl⟩) (pR_V (q0 := 0) (ci := 2) (hP.sub (ws' := (repW E (α 9) (α 10) (α 11) (α 12) (mK st) (mV st) (mE st))) [9, 10, 11, 12] rfl) hK rfl rfl) rfl rfl hl.1 rfl (lv_room (Nat.le_of_ble_eq_true rfl)) dX3_dropReply_8 ⟨Nat.le_of_ble_eq_true rfl, Nat.le_of_ble_eq_true rfl⟩) hP (dm hD rfl) hS [9, 10, 11, 12] rfl (by decide) rfl _ (rfl) rfl (fun H locs hP hS => ?_)
  have hP : va_P E.1 vwCl (stW E α (up (up (up st (36 + 6 * r + 3) 0) (36 + 6 * r + 4) 0) (36 + 6 * r + 5) 0)) H := w_mem (st := st) r _ _ 0 _ (by omega) (rfl) hP
  refine lv_aload_n hx hb dX3_dropReply_11 rfl (lv_lk hl rfl) ?_
  refine va_get (D := E.1) (ci := 3) hx hb hts inX3 hown hK.1 hP 0 rfl rfl 5 (by decide) (hts _ fl_X3_35) (fun _ h9 => h9) rfl dX3_dropReply_12 ?_
  refine lv_dup hx hb dX3_dropReply_15 rfl ?_
  refine va_get (D := E.1) (ci := 0) hx hb hts inX0 hown hK.1 hP 14 rfl rfl 4 (by decide) (hts _ fl_X3_119) (fun _ h9 => h9) rfl dX3_dropReply_16 ?_
  refine iv_iconst hx hb dX3_dropReply_19 ?_
  refine iv_iadd hx hb dX3_dropReply_20 ?_
  refine va_put (ci := 0) (ty := .int) hx hb hts inX0 tyX0 tyX0_ok nmX0 hown hK.1 hP (dm hD rfl) hS 14 rfl rfl 4 (by decide) (hts _ fl_X3_119) (fun _ h9 => h9) rfl (by decide +kernel) rfl rfl (Nat.le_of_ble_eq_true rfl) dX3_dropReply_21 (fun H locs hP _ hS => ?_)
  have hP : va_P E.1 vwCl (stW E α (up (up (up (up st (36 + 6 * r + 3) 0) (36 + 6 * r + 4) 0) (36 + 6 * r + 5) 0) 5 ((up (up (up st (36 + 6 * r + 3) 0) (36 + 6 * r + 4) 0) (36 + 6 * r + 5) 0) 5 + 1))) H := w_s5 (st := up (up (up st (36 + 6 * r + 3) 0) (36 + 6 * r + 4) 0) (36 + 6 * r + 5) 0) _ hP
  exact W.vret hx hb hrt (fun t ht hW => ⟨rfl, by rw [ht]; exact hP, hS.F ht⟩) hS.2.2 dX3_dropReply_24 hlocks
set_option maxHeartbeats 4000000 in
set_option maxRecDepth 100000 in
theorem m_X3_dropReferral (l : Launch) (E : Env3) (α : Nat → Nat) (st : S) (hα : dR α 16) (z : Nat) (hz : z < 6) : Met l yX3_dropReferral (Cond.code yX3_dropReferral cX3_dropReferral 2 none :: ALL) ({ frames := 1, cells := 0, slots := 0, locals := 22 }) (pR [.ref (α 0), .int (I (z : Int))] E (stW E α st)) (qW none E (stW E α st) (stW E α (up (up st (6 + 5 * z + 3) 0) 5 (up st (6 + 5 * z + 3) 0 5 + 1)))) 0 0 (adIn (stW E α st)) := by
  refine mk_met (by decide) rfl (Nat.le_of_ble_eq_true rfl) ?_
  intro p e s m args below meth c hx hb hrt hml hts hown hlocks hnm hP hK ls hl
  have hown : s.vm.findClass RX3 = some m.cls := hown
  have hl : lv_has ls 2 [(0, .ref (α 0)), (1, .int (I (z : Int)))] := hl
  have hD : va_D (adIn (stW E α st)) (stW E α st) := D_of_dR hα rfl
  have hS : va_S (adIn (stW E α st)) s.heap s.heap [] := va_S.rf
  refine lv_aload_n hx hb dX3_dropReferral_0 rfl (lv_lk hl rfl) ?_
  refine va_get (D := E.1) (ci := 3) hx hb hts inX3 hown hK.1 hP 0 rfl rfl 4 (by decide) (hts _ fl_X3_28) (fun _ h9 => h9) rfl dX3_dropReferral_1 ?_
  refine lv_iload_n hx hb dX3_dropReferral_4 rfl (lv_lk hl rfl) ?_
  refine iv_iconst hx hb dX3_dropReferral_5 ?_
  refine call_W (va_runSN ⟨hx, hb, hml, hown, hts⟩ (m_X5_write l E (α 13) 6 z (cE st) 0 (by omega) (by omega)) ⟨va_cnB 3 hts (gi_all cd_X5_write) rfl rfl rfl (nwK hK 13 rfl) (hts _ it_X5) (by decide +kernel) ⟨Nat.le_of_ble_eq_true rfl, Nat.le_of_ble_eq_true rfl⟩, hts _ st_X5_write, trivial⟩ (pR_S (hP.sub (ws' := [(α 13, iA E 6 (cE st))]) [13] rfl) hK) rfl rfl hl.1 rfl (lv_room (Nat.le_of_ble_eq_true rfl)) dX3_dropReferral_6 ⟨Nat.le_of_ble_eq_true rfl, Nat.le_of_ble_eq_true rfl⟩) hP (dm hD rfl) hS [13] rfl (by decide) rfl _ (rfl) rfl (fun H locs hP hS => ?_)
  have hP : va_P E.1 vwCl (stW E α (up st (6 + 5 * z + 3) 0)) H := w_ends (st := st) z _ (by omega) hP
  refine lv_aload_n hx hb dX3_dropReferral_9 rfl (lv_lk hl rfl) ?_
  refine va_get (D := E.1) (ci := 3) hx hb hts inX3 hown hK.1 hP 0 rfl rfl 5 (by decide) (hts _ fl_X3_35) (fun _ h9 => h9) rfl dX3_dropReferral_10 ?_
  refine lv_dup hx hb dX3_dropReferral_13 rfl ?_
  refine va_get (D := E.1) (ci := 0) hx hb hts inX0 hown hK.1 hP 14 rfl rfl 4 (by decide) (hts _ fl_X3_119) (fun _ h9 => h9) rfl dX3_dropReferral_14 ?_
  refine iv_iconst hx hb dX3_dropReferral_17 ?_
  refine iv_iadd hx hb dX3_dropReferral_18 ?_
  refine va_put (ci := 0) (ty := .int) hx hb hts inX0 tyX0 tyX0_ok nmX0 hown hK.1 hP (dm hD rfl) hS 14 rfl rfl 4 (by decide) (hts _ fl_X3_119) (fun _ h9 => h9) rfl (by decide +kernel) rfl rfl (Nat.le_of_ble_eq_true rfl) dX3_dropReferral_19 (fun H locs hP _ hS => ?_)
  have hP : va_P E.1 vwCl (stW E α (up (up st (6 + 5 * z + 3) 0) 5 ((up st (6 + 5 * z + 3) 0) 5 + 1))) H := w_s5 (st := up st (6 + 5 * z + 3) 0) _ hP
  exact W.vret hx hb hrt (fun t ht hW => ⟨rfl, by rw [ht]; exact hP, hS.F ht⟩) hS.2.2 dX3_dropReferral_22 hlocks
set_option maxHeartbeats 4000000 in
set_option maxRecDepth 100000 in
theorem m_X3_letPass (l : Launch) (E : Env3) (α : Nat → Nat) (st : S) (hα : dR α 16) (T : Int) (hI : IB T st) (t : Int) (ht : 0 ≤ t ∧ t ≤ 100 ∧ T ≤ 99900) : Met l yX3_letPass (Cond.code yX3_letPass cX3_letPass 4 (some .int) :: ALL) ({ frames := 3, cells := 0, slots := 0, locals := 67 }) (pR [.ref (α 0), .int (I t)] E (stW E α st)) (qW (some (.int (I (passes st t 5 - st 5)))) E (stW E α st) (stW E α (passes st t))) 0 0 (adIn (stW E α st)) := by
  refine mk_met (by decide) rfl (Nat.le_of_ble_eq_true rfl) ?_
  intro p e s m args below meth c hx hb hrt hml hts hown hlocks hnm hP hK ls hl
  have hown : s.vm.findClass RX3 = some m.cls := hown
  have hl : lv_has ls 4 [(0, .ref (α 0)), (1, .int (I t))] := hl
  have hD : va_D (adIn (stW E α st)) (stW E α st) := D_of_dR hα rfl
  have hS : va_S (adIn (stW E α st)) s.heap s.heap [] := va_S.rf
  refine lv_aload_n hx hb dX3_letPass_0 rfl (lv_lk hl rfl) ?_
  refine lv_dup hx hb dX3_letPass_1 rfl ?_
  refine va_get (D := E.1) (ci := 3) hx hb hts inX3 hown hK.1 hP 0 rfl rfl 0 (by decide) (hts _ fl_X3_39) (fun _ h9 => h9) rfl dX3_letPass_2 ?_
  refine lv_iload_n hx hb dX3_letPass_5 rfl (lv_lk hl rfl) ?_
  refine iv_iadd hx hb dX3_letPass_6 ?_
  refine va_put (ci := 3) (ty := .int) hx hb hts inX3 tyX3 tyX3_ok nmX3 hown hK.1 hP (dm hD rfl) hS 0 rfl rfl 0 (by decide) (hts _ fl_X3_39) (fun _ h9 => h9) rfl (by decide +kernel) rfl rfl (Nat.le_of_ble_eq_true rfl) dX3_letPass_7 (fun H locs hP _ hS => ?_)
  have hP : va_P E.1 vwCl (stW E α (up st 0 (st 0 + t))) H := w_s0 (st := st) _ hP
  obtain ⟨s0, hs0⟩ : ∃ x, x = up st 0 (st 0 + t) := ⟨_, rfl⟩
  rw [← hs0] at hP
  have hI0 : IB (T + 100) s0 := by rw [hs0]; exact IB_time hI _ (by have := hI.1; omega) _ (by have := hI.1; omega)
  refine lv_aload_n hx hb dX3_letPass_10 rfl (lv_lk hl rfl) ?_
  refine va_get (D := E.1) (ci := 3) hx hb hts inX3 hown hK.1 hP 0 rfl rfl 5 (by decide) (hts _ fl_X3_35) (fun _ h9 => h9) rfl dX3_letPass_11 ?_
  refine va_get (D := E.1) (ci := 0) hx hb hts inX0 hown hK.1 hP 14 rfl rfl 4 (by decide) (hts _ fl_X3_119) (fun _ h9 => h9) rfl dX3_letPass_14 ?_
  refine iv_eq (st 5) (by rw [hs0, up_ne _ _ (by decide)]) ?_
  refine lv_istore_n (lv' := [(2, .int (I _)), (0, .ref _), (1, .int (I _))]) hx hb dX3_letPass_17 rfl hl (by decide) rfl (fun ls hl => ?_)
  refine iv_iconst hx hb dX3_letPass_18 ?_
  refine lv_istore_n (lv' := [(3, .int (I _)), (2, .int (I _)), (0, .ref _), (1, .int (I _))]) hx hb dX3_letPass_19 rfl hl (by decide) rfl (fun ls hl => ?_)
  have LOOP20 : ∀ (n9 i : Nat), (i + n9 = 6) → ∀ (H : Heap) (locs : List Loc) (ls : Array Slot), va_P E.1 vwCl (stW E α (iter passZ i s0)) H → va_S (adIn (stW E α st)) s.heap H locs → lv_has ls 4 [(0, .ref (α 0)), (1, .int (I t)), (2, .int (I (st 5))), (3, .int (I (i : Int)))] → W p l e ({ frames := 3, cells := 0, slots := 0, locals := 67 }) s m args below meth c H locs 0 0 (MQ below (qW (some (.int (I (passes st t 5 - st 5)))) E (stW E α st) (stW E α (passes st t))) args s 0 0 (adIn (stW E α st))) (F0 m 20 ls []) := by
    intro n9
    induction n9 with
    | zero =>
      intro  i hi9 H locs ls hP hS hl
      obtain rfl : i = 6 := by omega
      refine lv_iload_n hx hb dX3_letPass_20 rfl (lv_lk hl rfl) ?_
      refine iv_bipush hx hb dX3_letPass_21 (by decide +kernel) ?_
      refine iv_icmp_ge (tgt := 52) hx hb dX3_letPass_23 (by decide) (by omega) (by omega) (fun c_23 => ?_) (fun c_23 => by exfalso; omega)
      obtain ⟨s1, hs1⟩ : ∃ x, x = iter passZ 6 s0 := ⟨_, rfl⟩
      rw [← hs1] at hP
      have hI1 : IB (T + 100) s1 := by rw [hs1]; exact iter_IB (N := 6) (fun st n hn h => IB_passZ h hn) 6 (Nat.le_refl _) _ hI0
      refine iv_iconst hx hb dX3_letPass_52 ?_
      refine lv_istore_n (lv' := [(3, .int (I _)), (0, .ref _), (1, .int (I _)), (2, .int (I _))]) hx hb dX3_letPass_53 rfl hl (by decide) rfl (fun ls hl => ?_)
      have LOOP54 : ∀ (n9 i : Nat), (i + n9 = 36) → ∀ (H : Heap) (locs : List Loc) (ls : Array Slot), va_P E.1 vwCl (stW E α (iter passR i s1)) H → va_S (adIn (stW E α st)) s.heap H locs → lv_has ls 4 [(0, .ref (α 0)), (1, .int (I t)), (2, .int (I (st 5))), (3, .int (I (i : Int)))] → W p l e ({ frames := 3, cells := 0, slots := 0, locals := 67 }) s m args below meth c H locs 0 0 (MQ below (qW (some (.int (I (passes st t 5 - st 5)))) E (stW E α st) (stW E α (passes st t))) args s 0 0 (adIn (stW E α st))) (F0 m 54 ls []) := by
        intro n9
        induction n9 with
        | zero =>
          intro  i hi9 H locs ls hP hS hl
          obtain rfl : i = 36 := by omega
          refine lv_iload_n hx hb dX3_letPass_54 rfl (lv_lk hl rfl) ?_
          refine iv_bipush hx hb dX3_letPass_55 (by decide +kernel) ?_
          refine iv_icmp_ge (tgt := 86) hx hb dX3_letPass_57 (by decide) (by omega) (by omega) (fun c_57 => ?_) (fun c_57 => by exfalso; omega)
          refine lv_aload_n hx hb dX3_letPass_86 rfl (lv_lk hl rfl) ?_
          refine va_get (D := E.1) (ci := 3) hx hb hts inX3 hown hK.1 hP 0 rfl rfl 5 (by decide) (hts _ fl_X3_35) (fun _ h9 => h9) rfl dX3_letPass_87 ?_
          refine va_get (D := E.1) (ci := 0) hx hb hts inX0 hown hK.1 hP 14 rfl rfl 4 (by decide) (hts _ fl_X3_119) (fun _ h9 => h9) rfl dX3_letPass_90 ?_
          refine lv_iload_n hx hb dX3_letPass_93 rfl (lv_lk hl rfl) ?_
          refine iv_isub hx hb dX3_letPass_94 ?_
          refine iv_eq (passes st t 5 - st 5) (by rw [hs1, hs0]; rfl) ?_
          exact W.iret hx hb hrt (fun t ht hW => ⟨rfl, by rw [ht]; exact (by rw [hs1, hs0] at hP; exact hP), hS.F ht⟩) hS.2.2 dX3_letPass_95 hlocks
        | succ n9 ih =>
          intro  i hi9 H locs ls hP hS hl
          have hI9 : IB (T + 100) (iter passR i s1) := iter_IB (N := 36) (fun st n hn h => IB_passR h hn) i (by omega) _ hI1
          have z9 := (hI9.2.2.2 i (by omega)).2
          unfold triM at z9
          have z8 := hI9.1
          refine lv_iload_n hx hb dX3_letPass_54 rfl (lv_lk hl rfl) ?_
          refine iv_bipush hx hb dX3_letPass_55 (by decide +kernel) ?_
          refine iv_icmp_ge (tgt := 86) hx hb dX3_letPass_57 (by decide) (by omega) (by omega) (fun c_57 => by exfalso; omega) (fun c_57 => ?_)
          refine lv_aload_n hx hb dX3_letPass_60 rfl (lv_lk hl rfl) ?_
          refine lv_aload_n hx hb dX3_letPass_61 rfl (lv_lk hl rfl) ?_
          refine va_get (D := E.1) (ci := 3) hx hb hts inX3 hown hK.1 hP 0 rfl rfl 3 (by decide) (hts _ fl_X3_25) (fun _ h9 => h9) rfl dX3_letPass_62 ?_
          refine lv_iload_n hx hb dX3_letPass_65 rfl (lv_lk hl rfl) ?_
          refine call_S (va_runV ⟨hx, hb, hml, hown, hts⟩ (m_X2_ticks l E (α 9) (α 10) (α 11) (α 12) (mK (iter passR i s1)) (mV (iter passR i s1)) (mE (iter passR i s1)) i (by omega)) (cwV 1 hts (gi_V ml_X3_112 im_X2_ticks sl_X2_ticks it_X2 cd_X2_ticks) rfl rfl rfl (by decide +kernel) ⟨Nat.le_of_ble_eq_true rfl, Nat.le_of_ble_eq_true rfl⟩) (pR_V (q0 := 0) (ci := 2) (hP.sub (ws' := (repW E (α 9) (α 10) (α 11) (α 12) (mK (iter passR i s1)) (mV (iter passR i s1)) (mE (iter passR i s1)))) [9, 10, 11, 12] rfl) hK rfl rfl) rfl rfl hl.1 rfl (lv_room (Nat.le_of_ble_eq_true rfl)) dX3_letPass_66 ⟨Nat.le_of_ble_eq_true rfl, Nat.le_of_ble_eq_true rfl⟩) (fun _ h => h) hS rfl (fun locs hS => ?_)
          refine iv_eq ((iter passR i s1) (36 + 6 * i + 5)) (rfl) ?_
          refine call_S (va_runV ⟨hx, hb, hml, hown, hts⟩ (m_X3_isOver l E α (iter passR i s1) _ (by omega) (by omega)) (cwV 1 hts (gi_V ml_X3_122 im_X3_isOver sl_X3_isOver it_X3 cd_X3_isOver) rfl rfl rfl (by decide +kernel) ⟨Nat.le_of_ble_eq_true rfl, Nat.le_of_ble_eq_true rfl⟩) (pR_V (q0 := 0) (ci := 3) hP hK rfl rfl) rfl rfl hl.1 rfl (lv_room (Nat.le_of_ble_eq_true rfl)) dX3_letPass_69 ⟨Nat.le_of_ble_eq_true rfl, Nat.le_of_ble_eq_true rfl⟩) (fun _ h => h) hS rfl (fun locs hS => ?_)
          by_cases h9 : ¬ iter passR i s1 (36 + 6 * i + 5) = 0 ∧ iter passR i s1 (36 + 6 * i + 5) ≤ iter passR i s1 0
          · refine iv_eq (1) (by rw [if_pos h9]) ?_
            refine iv_if_eq (tgt := 80) hx hb dX3_letPass_72 (by decide) (by omega) (fun c_72 => by exfalso; omega) (fun c_72 => ?_)
            refine lv_aload_n hx hb dX3_letPass_75 rfl (lv_lk hl rfl) ?_
            refine lv_iload_n hx hb dX3_letPass_76 rfl (lv_lk hl rfl) ?_
            refine call_F (va_runV ⟨hx, hb, hml, hown, hts⟩ (m_X3_dropReply l E α (iter passR i s1) hα i (by omega)) (cwV 1 hts (gi_V ml_X3_129 im_X3_dropReply sl_X3_dropReply it_X3 cd_X3_dropReply) rfl rfl rfl (by decide +kernel) ⟨Nat.le_of_ble_eq_true rfl, Nat.le_of_ble_eq_true rfl⟩) (pR_V (q0 := 0) (ci := 3) hP hK rfl rfl) rfl rfl hl.1 rfl (lv_room (Nat.le_of_ble_eq_true rfl)) dX3_letPass_77 ⟨Nat.le_of_ble_eq_true rfl, Nat.le_of_ble_eq_true rfl⟩) (dm hD rfl) hS rfl (fun H locs hP hS => ?_)
            have hP : va_P E.1 vwCl (stW E α (forg (iter passR i s1) i)) H := hP
            have hP : va_P E.1 vwCl (stW E α (passR (iter passR i s1) i)) H := (by rw [passR, if_pos (by omega)]; exact hP)
            refine iv_iinc (k := 3) hx hb dX3_letPass_80 hl rfl (((i + 1 : Nat) : Int)) (by omega) (by decide) [(3, .int (I _)), (0, .ref _), (1, .int (I _)), (2, .int (I _))] rfl (fun ls hl => ?_)
            refine lv_goto (tgt := 54) hx hb dX3_letPass_83 (by decide) ?_
            exact ih (i + 1) (by omega) H locs ls hP hS (lv_sub hl [1, 2, 3, 0] rfl)
          · refine iv_eq (0) (by rw [if_neg h9]) ?_
            refine iv_if_eq (tgt := 80) hx hb dX3_letPass_72 (by decide) (by omega) (fun c_72 => ?_) (fun c_72 => by exfalso; omega)
            have hP : va_P E.1 vwCl (stW E α (passR (iter passR i s1) i)) H := (by rw [passR, if_neg (by omega)]; exact hP)
            refine iv_iinc (k := 3) hx hb dX3_letPass_80 hl rfl (((i + 1 : Nat) : Int)) (by omega) (by decide) [(3, .int (I _)), (0, .ref _), (1, .int (I _)), (2, .int (I _))] rfl (fun ls hl => ?_)
            refine lv_goto (tgt := 54) hx hb dX3_letPass_83 (by decide) ?_
            exact ih (i + 1) (by omega) H locs ls hP hS (lv_sub hl [1, 2, 3, 0] rfl)
      exact LOOP54 36 0 (by omega) _ _ _ hP hS (lv_sub hl [1, 2, 3, 0] rfl)
    | succ n9 ih =>
      intro  i hi9 H locs ls hP hS hl
      have hI9 : IB (T + 100) (iter passZ i s0) := iter_IB (N := 6) (fun st n hn h => IB_passZ h hn) i (by omega) _ hI0
      have z9 := (hI9.2.2.1 i (by omega)).2.2.2.2.2
      have z8 := hI9.1
      refine lv_iload_n hx hb dX3_letPass_20 rfl (lv_lk hl rfl) ?_
      refine iv_bipush hx hb dX3_letPass_21 (by decide +kernel) ?_
      refine iv_icmp_ge (tgt := 52) hx hb dX3_letPass_23 (by decide) (by omega) (by omega) (fun c_23 => by exfalso; omega) (fun c_23 => ?_)
      refine lv_aload_n hx hb dX3_letPass_26 rfl (lv_lk hl rfl) ?_
      refine lv_aload_n hx hb dX3_letPass_27 rfl (lv_lk hl rfl) ?_
      refine va_get (D := E.1) (ci := 3) hx hb hts inX3 hown hK.1 hP 0 rfl rfl 4 (by decide) (hts _ fl_X3_28) (fun _ h9 => h9) rfl dX3_letPass_28 ?_
      refine lv_iload_n hx hb dX3_letPass_31 rfl (lv_lk hl rfl) ?_
      refine call_S (va_runSN ⟨hx, hb, hml, hown, hts⟩ (m_X5_read l E (α 13) 6 i (cE (iter passZ i s0)) (by omega) (by omega)) ⟨va_cnB 2 hts (gi_all cd_X5_read) rfl rfl rfl (nwK hK 3 rfl) (hts _ it_X5) (by decide +kernel) ⟨Nat.le_of_ble_eq_true rfl, Nat.le_of_ble_eq_true rfl⟩, hts _ st_X5_read, trivial⟩ (pR_S (hP.sub (ws' := [(α 13, iA E 6 (cE (iter passZ i s0)))]) [13] rfl) hK) rfl rfl hl.1 rfl (lv_room (Nat.le_of_ble_eq_true rfl)) dX3_letPass_32 ⟨Nat.le_of_ble_eq_true rfl, Nat.le_of_ble_eq_true rfl⟩) (fun _ h => h) hS rfl (fun locs hS => ?_)
      refine iv_eq ((iter passZ i s0) (6 + 5 * i + 3)) (rfl) ?_
      refine call_S (va_runV ⟨hx, hb, hml, hown, hts⟩ (m_X3_isOver l E α (iter passZ i s0) _ (by omega) (by omega)) (cwV 1 hts (gi_V ml_X3_122 im_X3_isOver sl_X3_isOver it_X3 cd_X3_isOver) rfl rfl rfl (by decide +kernel) ⟨Nat.le_of_ble_eq_true rfl, Nat.le_of_ble_eq_true rfl⟩) (pR_V (q0 := 0) (ci := 3) hP hK rfl rfl) rfl rfl hl.1 rfl (lv_room (Nat.le_of_ble_eq_true rfl)) dX3_letPass_35 ⟨Nat.le_of_ble_eq_true rfl, Nat.le_of_ble_eq_true rfl⟩) (fun _ h => h) hS rfl (fun locs hS => ?_)
      by_cases h9 : ¬ iter passZ i s0 (6 + 5 * i + 3) = 0 ∧ iter passZ i s0 (6 + 5 * i + 3) ≤ iter passZ i s0 0
      · refine iv_eq (1) (by rw [if_pos h9]) ?_
        refine iv_if_eq (tgt := 46) hx hb dX3_letPass_38 (by decide) (by omega) (fun c_38 => by exfalso; omega) (fun c_38 => ?_)
        refine lv_aload_n hx hb dX3_letPass_41 rfl (lv_lk hl rfl) ?_
        refine lv_iload_n hx hb dX3_letPass_42 rfl (lv_lk hl rfl) ?_
        refine call_F (va_runV ⟨hx, hb, hml, hown, hts⟩ (m_X3_dropReferral l E α (iter passZ i s0) hα i (by omega)) (cwV 1 hts (gi_V ml_X3_126 im_X3_dropReferral sl_X3_dropReferral it_X3 cd_X3_dropReferral) rfl rfl rfl (by decide +kernel) ⟨Nat.le_of_ble_eq_true rfl, Nat.le_of_ble_eq_true rfl⟩) (pR_V (q0 := 0) (ci := 3) hP hK rfl rfl) rfl rfl hl.1 rfl (lv_room (Nat.le_of_ble_eq_true rfl)) dX3_letPass_43 ⟨Nat.le_of_ble_eq_true rfl, Nat.le_of_ble_eq_true rfl⟩) (dm hD rfl) hS rfl (fun H locs hP hS => ?_)
        have hP : va_P E.1 vwCl (stW E α (up (up (iter passZ i s0) (6 + 5 * i + 3) 0) 5 (up (iter passZ i s0) (6 + 5 * i + 3) 0 5 + 1))) H := hP
        have hP : va_P E.1 vwCl (stW E α (passZ (iter passZ i s0) i)) H := (by rw [passZ, if_pos (by omega)]; exact hP)
        refine iv_iinc (k := 3) hx hb dX3_letPass_46 hl rfl (((i + 1 : Nat) : Int)) (by omega) (by decide) [(3, .int (I _)), (0, .ref _), (1, .int (I _)), (2, .int (I _))] rfl (fun ls hl => ?_)
        refine lv_goto (tgt := 20) hx hb dX3_letPass_49 (by decide) ?_
        exact ih (i + 1) (by omega) H locs ls hP hS (lv_sub hl [1, 2, 3, 0] rfl)
      · refine iv_eq (0) (by rw [if_neg h9]) ?_
        refine iv_if_eq (tgt := 46) hx hb dX3_letPass_38 (by decide) (by omega) (fun c_38 => ?_) (fun c_38 => by exfalso; omega)
        have hP : va_P E.1 vwCl (stW E α (passZ (iter passZ i s0) i)) H := (by rw [passZ, if_neg (by omega)]; exact hP)
        refine iv_iinc (k := 3) hx hb dX3_letPass_46 hl rfl (((i + 1 : Nat) : Int)) (by omega) (by decide) [(3, .int (I _)), (0, .ref _), (1, .int (I _)), (2, .int (I _))] rfl (fun ls hl => ?_)
        refine lv_goto (tgt := 20) hx hb dX3_letPass_49 (by decide) ?_
        exact ih (i + 1) (by omega) H locs ls hP hS (lv_sub hl [1, 2, 3, 0] rfl)
  exact LOOP20 6 0 (by omega) _ _ _ hP hS (lv_sub hl [2, 3, 1, 0] rfl)
