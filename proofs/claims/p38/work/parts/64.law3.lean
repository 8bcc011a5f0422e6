/-! the law's own method would: it solves on copies; written by law3.py -/
theorem dR_places {A : Nat → Prop} {ws : va_W} (hD : va_D A ws) {β : Nat → Nat} (f : Nat → Nat) (hf : ∀ i, i < 6 → ∃ x, ws[f i]? = some (β i, x)) (hi : ∀ i, i < 6 → ∀ j, j < 6 → f i = f j → i = j) : dR β 6 := by
  intro i j h1 h2 h3
  obtain ⟨x, hx⟩ := hf i h1
  obtain ⟨y, hy⟩ := hf j h2
  exact hi i h1 j h2 (hD.1 _ _ _ _ hx hy h3)
def wdV (st : S) (k : Nat) (t c : Int) : Int := if c = 0 then wouldIn st k t else (solvesF 7 (passes st t) k).1 2 - st 2
set_option maxHeartbeats 4000000 in
set_option maxRecDepth 100000 in
theorem m_L_would (l : Launch) (E : Env3) (β : Nat → Nat) (hβ : dR β 6) (T : Int) (st q z r a mm ee : S) (hI : IB T st) (hL : LR st q z r a mm ee) (k : Nat) (hk : k < 36) (tk c9 U : Int) (ht : 0 ≤ tk ∧ tk ≤ 1000) (hU : T + tk ≤ U ∧ U ≤ 100000) (hc : c9 = 0 ∨ c9 = 1) : Met l yL_would (Cond.code yL_would cL_would 14 (some .int) :: ALL) ({ frames := 3, cells := 4, slots := 108, locals := 83 }) (pR [.int (I (k : Int)), .int (I tk), .int (I c9), .ref (β 0), .ref (β 1), .ref (β 2), .ref (β 3), .ref (β 4), .ref (β 5)] E [(β 0, iA E 6 q), (β 1, iA E 30 z), (β 2, iA E 36 r), (β 3, iA E 36 a), (β 4, iA E 36 mm), (β 5, iA E 36 ee)]) (qH (some (.int (I (wdV st k tk c9)))) (adIn [(β 0, iA E 6 q), (β 1, iA E 30 z), (β 2, iA E 36 r), (β 3, iA E 36 a), (β 4, iA E 36 mm), (β 5, iA E 36 ee)]) (fun H => va_P E.1 vwCl [(β 0, iA E 6 q), (β 1, iA E 30 z), (β 2, iA E 36 r), (β 3, iA E 36 a), (β 4, iA E 36 mm), (β 5, iA E 36 ee)] H)) 4 108 (adIn [(β 0, iA E 6 q), (β 1, iA E 30 z), (β 2, iA E 36 r), (β 3, iA E 36 a), (β 4, iA E 36 mm), (β 5, iA E 36 ee)]) := by
  refine mk_met (by decide) rfl (Nat.le_of_ble_eq_true rfl) ?_
  intro p e s m args below meth c hx hb hrt hml hts hown hlocks hnm hP hK ls hl
  have hown : s.vm.findClass RL = some m.cls := hown
  have hl : lv_has ls 14 [(0, .int (I (k : Int))), (1, .int (I tk)), (2, .int (I c9)), (3, .ref (β 0)), (4, .ref (β 1)), (5, .ref (β 2)), (6, .ref (β 3)), (7, .ref (β 4)), (8, .ref (β 5))] := hl
  have hD : va_D (fun q9 => adIn [(β 0, iA E 6 q), (β 1, iA E 30 z), (β 2, iA E 36 r), (β 3, iA E 36 a), (β 4, iA E 36 mm), (β 5, iA E 36 ee)] q9 ∨ s.heap.size ≤ q9) [(β 0, iA E 6 q), (β 1, iA E 30 z), (β 2, iA E 36 r), (β 3, iA E 36 a), (β 4, iA E 36 mm), (β 5, iA E 36 ee)] := va_D.weaken (D_of_dR hβ rfl) (fun _ _ _ h9 => Or.inl h9)
  have hS : va_S (fun q9 => adIn [(β 0, iA E 6 q), (β 1, iA E 30 z), (β 2, iA E 36 r), (β 3, iA E 36 a), (β 4, iA E 36 mm), (β 5, iA E 36 ee)] q9 ∨ s.heap.size ≤ q9) s.heap s.heap [] := va_S.rf
  refine iv_bipush hx hb dL_would_0 (by decide +kernel) ?_
  refine iv_newa hx hb (hts _ ac_int) hK hP hD hS (fun _ h9 => Or.inr h9) (6) (by omega) (by omega) (Nat.le_of_ble_eq_true rfl) (Nat.le_of_ble_eq_true rfl) dL_would_2 (fun aq H hP hD hS => ?_)
  have hP : va_P E.1 vwCl [(β 0, iA E 6 q), (β 1, iA E 30 z), (β 2, iA E 36 r), (β 3, iA E 36 a), (β 4, iA E 36 mm), (β 5, iA E 36 ee), (aq, iA E 6 (fun _ => 0))] H := hP
  have hD : va_D (fun q9 => adIn [(β 0, iA E 6 q), (β 1, iA E 30 z), (β 2, iA E 36 r), (β 3, iA E 36 a), (β 4, iA E 36 mm), (β 5, iA E 36 ee)] q9 ∨ s.heap.size ≤ q9) [(β 0, iA E 6 q), (β 1, iA E 30 z), (β 2, iA E 36 r), (β 3, iA E 36 a), (β 4, iA E 36 mm), (β 5, iA E 36 ee), (aq, iA E 6 (fun _ => 0))] := hD
  refine lv_astore (lv' := [(9, .ref _), (0, .int (I _)), (1, .int (I _)), (2, .int (I _)), (3, .ref _), (4, .ref _), (5, .ref _), (6, .ref _), (7, .ref _), (8, .ref _)]) hx hb dL_would_4 hl (by decide) rfl (fun ls hl => ?_)
  refine iv_bipush hx hb dL_would_6 (by decide +kernel) ?_
  refine iv_newa hx hb (hts _ ac_int) hK hP hD hS (fun _ h9 => Or.inr h9) (30) (by omega) (by omega) (Nat.le_of_ble_eq_true rfl) (Nat.le_of_ble_eq_true rfl) dL_would_8 (fun az H hP hD hS => ?_)
  have hP : va_P E.1 vwCl [(β 0, iA E 6 q), (β 1, iA E 30 z), (β 2, iA E 36 r), (β 3, iA E 36 a), (β 4, iA E 36 mm), (β 5, iA E 36 ee), (aq, iA E 6 (fun _ => 0)), (az, iA E 30 (fun _ => 0))] H := hP
  have hD : va_D (fun q9 => adIn [(β 0, iA E 6 q), (β 1, iA E 30 z), (β 2, iA E 36 r), (β 3, iA E 36 a), (β 4, iA E 36 mm), (β 5, iA E 36 ee)] q9 ∨ s.heap.size ≤ q9) [(β 0, iA E 6 q), (β 1, iA E 30 z), (β 2, iA E 36 r), (β 3, iA E 36 a), (β 4, iA E 36 mm), (β 5, iA E 36 ee), (aq, iA E 6 (fun _ => 0)), (az, iA E 30 (fun _ => 0))] := hD
  refine lv_astore (lv' := [(10, .ref _), (9, .ref _), (0, .int (I _)), (1, .int (I _)), (2, .int (I _)), (3, .ref _), (4, .ref _), (5, .ref _), (6, .ref _), (7, .ref _), (8, .ref _)]) hx hb dL_would_10 hl (by decide) rfl (fun ls hl => ?_)
  refine iv_bipush hx hb dL_would_12 (by decide +kernel) ?_
  refine iv_newa hx hb (hts _ ac_int) hK hP hD hS (fun _ h9 => Or.inr h9) (36) (by omega) (by omega) (Nat.le_of_ble_eq_true rfl) (Nat.le_of_ble_eq_true rfl) dL_would_14 (fun am H hP hD hS => ?_)
  have hP : va_P E.1 vwCl [(β 0, iA E 6 q), (β 1, iA E 30 z), (β 2, iA E 36 r), (β 3, iA E 36 a), (β 4, iA E 36 mm), (β 5, iA E 36 ee), (aq, iA E 6 (fun _ => 0)), (az, iA E 30 (fun _ => 0)), (am, iA E 36 (fun _ => 0))] H := hP
  have hD : va_D (fun q9 => adIn [(β 0, iA E 6 q), (β 1, iA E 30 z), (β 2, iA E 36 r), (β 3, iA E 36 a), (β 4, iA E 36 mm), (β 5, iA E 36 ee)] q9 ∨ s.heap.size ≤ q9) [(β 0, iA E 6 q), (β 1, iA E 30 z), (β 2, iA E 36 r), (β 3, iA E 36 a), (β 4, iA E 36 mm), (β 5, iA E 36 ee), (aq, iA E 6 (fun _ => 0)), (az, iA E 30 (fun _ => 0)), (am, iA E 36 (fun _ => 0))] := hD
  refine lv_astore (lv' := [(11, .ref _), (10, .ref _), (9, .ref _), (0, .int (I _)), (1, .int (I _)), (2, .int (I _)), (3, .ref _), (4, .ref _), (5, .ref _), (6, .ref _), (7, .ref _), (8, .ref _)]) hx hb dL_would_16 hl (by decide) rfl (fun ls hl => ?_)
  refine iv_bipush hx hb dL_would_18 (by decide +kernel) ?_
  refine iv_newa hx hb (hts _ ac_int) hK hP hD hS (fun _ h9 => Or.inr h9) (36) (by omega) (by omega) (Nat.le_of_ble_eq_true rfl) (Nat.le_of_ble_eq_true rfl) dL_would_20 (fun ae H hP hD hS => ?_)
  have hP : va_P E.1 vwCl [(β 0, iA E 6 q), (β 1, iA E 30 z), (β 2, iA E 36 r), (β 3, iA E 36 a), (β 4, iA E 36 mm), (β 5, iA E 36 ee), (aq, iA E 6 (fun _ => 0)), (az, iA E 30 (fun _ => 0)), (am, iA E 36 (fun _ => 0)), (ae, iA E 36 (fun _ => 0))] H := hP
  have hD : va_D (fun q9 => adIn [(β 0, iA E 6 q), (β 1, iA E 30 z), (β 2, iA E 36 r), (β 3, iA E 36 a), (β 4, iA E 36 mm), (β 5, iA E 36 ee)] q9 ∨ s.heap.size ≤ q9) [(β 0, iA E 6 q), (β 1, iA E 30 z), (β 2, iA E 36 r), (β 3, iA E 36 a), (β 4, iA E 36 mm), (β 5, iA E 36 ee), (aq, iA E 6 (fun _ => 0)), (az, iA E 30 (fun _ => 0)), (am, iA E 36 (fun _ => 0)), (ae, iA E 36 (fun _ => 0))] := hD
  refine lv_astore (lv' := [(12, .ref _), (11, .ref _), (10, .ref _), (9, .ref _), (0, .int (I _)), (1, .int (I _)), (2, .int (I _)), (3, .ref _), (4, .ref _), (5, .ref _), (6, .ref _), (7, .ref _), (8, .ref _)]) hx hb dL_would_22 hl (by decide) rfl (fun ls hl => ?_)
  refine lv_aload_n hx hb dL_would_24 rfl (lv_lk hl rfl) ?_
  refine lv_aload hx hb dL_would_25 (lv_lk hl rfl) ?_
  refine call_W (va_runS ⟨hx, hb, hml, hown, hts⟩ (m_L_copy l E (β 0) aq 6 q (fun _ => 0) (fun h9 => absurd (hD.1 0 6 _ _ rfl rfl h9) (by decide)) (by omega)) (va_cwS 2 hts (gi_S ml_L_20 st_L_copy it_L cd_L_copy) rfl rfl rfl (by decide +kernel) ⟨Nat.le_of_ble_eq_true rfl, Nat.le_of_ble_eq_true rfl⟩) (pR_S (hP.sub (ws' := [(β 0, iA E 6 q), (aq, iA E 6 (fun _ => 0))]) [0, 6] rfl) hK) rfl rfl hl.1 rfl (lv_room (Nat.le_of_ble_eq_true rfl)) dL_would_27 ⟨Nat.le_of_ble_eq_true rfl, Nat.le_of_ble_eq_true rfl⟩) hP (dm hD rfl) hS [0, 6] rfl (by decide) rfl [(β 0, iA E 6 q), (β 1, iA E 30 z), (β 2, iA E 36 r), (β 3, iA E 36 a), (β 4, iA E 36 mm), (β 5, iA E 36 ee), (aq, iA E 6 (cpN q (fun _ => 0) 6)), (az, iA E 30 (fun _ => 0)), (am, iA E 36 (fun _ => 0)), (ae, iA E 36 (fun _ => 0))] (rfl) rfl (fun H locs hP hS => ?_)
  refine lv_aload hx hb dL_would_30 (lv_lk hl rfl) ?_
  refine lv_aload hx hb dL_would_32 (lv_lk hl rfl) ?_
  refine call_W (va_runS ⟨hx, hb, hml, hown, hts⟩ (m_L_copy l E (β 1) az 30 z (fun _ => 0) (fun h9 => absurd (hD.1 1 7 _ _ rfl rfl h9) (by decide)) (by omega)) (va_cwS 2 hts (gi_S ml_L_20 st_L_copy it_L cd_L_copy) rfl rfl rfl (by decide +kernel) ⟨Nat.le_of_ble_eq_true rfl, Nat.le_of_ble_eq_true rfl⟩) (pR_S (hP.sub (ws' := [(β 1, iA E 30 z), (az, iA E 30 (fun _ => 0))]) [1, 7] rfl) hK) rfl rfl hl.1 rfl (lv_room (Nat.le_of_ble_eq_true rfl)) dL_would_34 ⟨Nat.le_of_ble_eq_true rfl, Nat.le_of_ble_eq_true rfl⟩) hP (dm hD rfl) hS [1, 7] rfl (by decide) rfl [(β 0, iA E 6 q), (β 1, iA E 30 z), (β 2, iA E 36 r), (β 3, iA E 36 a), (β 4, iA E 36 mm), (β 5, iA E 36 ee), (aq, iA E 6 (cpN q (fun _ => 0) 6)), (az, iA E 30 (cpN z (fun _ => 0) 30)), (am, iA E 36 (fun _ => 0)), (ae, iA E 36 (fun _ => 0))] (rfl) rfl (fun H locs hP hS => ?_)
  refine lv_aload hx hb dL_would_37 (lv_lk hl rfl) ?_
  refine lv_aload hx hb dL_would_39 (lv_lk hl rfl) ?_
  refine call_W (va_runS ⟨hx, hb, hml, hown, hts⟩ (m_L_copy l E (β 4) am 36 mm (fun _ => 0) (fun h9 => absurd (hD.1 4 8 _ _ rfl rfl h9) (by decide)) (by omega)) (va_cwS 2 hts (gi_S ml_L_20 st_L_copy it_L cd_L_copy) rfl rfl rfl (by decide +kernel) ⟨Nat.le_of_ble_eq_true rfl, Nat.le_of_ble_eq_true rfl⟩) (pR_S (hP.sub (ws' := [(β 4, iA E 36 mm), (am, iA E 36 (fun _ => 0))]) [4, 8] rfl) hK) rfl rfl hl.1 rfl (lv_room (Nat.le_of_ble_eq_true rfl)) dL_would_41 ⟨Nat.le_of_ble_eq_true rfl, Nat.le_of_ble_eq_true rfl⟩) hP (dm hD rfl) hS [4, 8] rfl (by decide) rfl [(β 0, iA E 6 q), (β 1, iA E 30 z), (β 2, iA E 36 r), (β 3, iA E 36 a), (β 4, iA E 36 mm), (β 5, iA E 36 ee), (aq, iA E 6 (cpN q (fun _ => 0) 6)), (az, iA E 30 (cpN z (fun _ => 0) 30)), (am, iA E 36 (cpN mm (fun _ => 0) 36)), (ae, iA E 36 (fun _ => 0))] (rfl) rfl (fun H locs hP hS => ?_)
  refine lv_aload hx hb dL_would_44 (lv_lk hl rfl) ?_
  refine lv_aload hx hb dL_would_46 (lv_lk hl rfl) ?_
  refine call_W (va_runS ⟨hx, hb, hml, hown, hts⟩ (m_L_copy l E (β 5) ae 36 ee (fun _ => 0) (fun h9 => absurd (hD.1 5 9 _ _ rfl rfl h9) (by decide)) (by omega)) (va_cwS 2 hts (gi_S ml_L_20 st_L_copy it_L cd_L_copy) rfl rfl rfl (by decide +kernel) ⟨Nat.le_of_ble_eq_true rfl, Nat.le_of_ble_eq_true rfl⟩) (pR_S (hP.sub (ws' := [(β 5, iA E 36 ee), (ae, iA E 36 (fun _ => 0))]) [5, 9] rfl) hK) rfl rfl hl.1 rfl (lv_room (Nat.le_of_ble_eq_true rfl)) dL_would_48 ⟨Nat.le_of_ble_eq_true rfl, Nat.le_of_ble_eq_true rfl⟩) hP (dm hD rfl) hS [5, 9] rfl (by decide) rfl [(β 0, iA E 6 q), (β 1, iA E 30 z), (β 2, iA E 36 r), (β 3, iA E 36 a), (β 4, iA E 36 mm), (β 5, iA E 36 ee), (aq, iA E 6 (cpN q (fun _ => 0) 6)), (az, iA E 30 (cpN z (fun _ => 0) 30)), (am, iA E 36 (cpN mm (fun _ => 0) 36)), (ae, iA E 36 (cpN ee (fun _ => 0) 36))] (rfl) rfl (fun H locs hP hS => ?_)
  have hβ2 : dR (fun i => [aq, az, β 2, β 3, am, ae].getD i 0) 6 := dR_places hD (fun i => [6, 7, 2, 3, 8, 9].getD i 0) (fun i hi => match i, hi with | 0, _ => ⟨_, rfl⟩ | 1, _ => ⟨_, rfl⟩ | 2, _ => ⟨_, rfl⟩ | 3, _ => ⟨_, rfl⟩ | 4, _ => ⟨_, rfl⟩ | 5, _ => ⟨_, rfl⟩ | i + 6, h9 => absurd h9 (by omega)) (by decide)
  have hL2 : LR st (cpN q (fun _ => 0) 6) (cpN z (fun _ => 0) 30) r a (cpN mm (fun _ => 0) 36) (cpN ee (fun _ => 0) 36) := LR_arr hL (fun j hj => cpN_lt _ _ _ _ hj) (fun j hj => cpN_lt _ _ _ _ hj) (fun _ _ => rfl) (fun _ _ => rfl) (fun j hj => cpN_lt _ _ _ _ hj) (fun j hj => cpN_lt _ _ _ _ hj)
  refine lv_iload_n hx hb dL_would_51 rfl (lv_lk hl rfl) ?_
  refine lv_aload hx hb dL_would_52 (lv_lk hl rfl) ?_
  refine lv_aload hx hb dL_would_54 (lv_lk hl rfl) ?_
  refine lv_aload hx hb dL_would_56 (lv_lk hl rfl) ?_
  refine lv_aload hx hb dL_would_58 (lv_lk hl rfl) ?_
  refine call_XW (va_runS ⟨hx, hb, hml, hown, hts⟩ (m_L_pass l E (fun i => [aq, az, β 2, β 3, am, ae].getD i 0) hβ2 T st (cpN q (fun _ => 0) 6) (cpN z (fun _ => 0) 30) r a (cpN mm (fun _ => 0) 36) (cpN ee (fun _ => 0) 36) hI hL2 tk U ht hU) (va_cwS 5 hts (gi_S ml_L_24 st_L_pass it_L cd_L_pass) rfl rfl rfl (by decide +kernel) ⟨Nat.le_of_ble_eq_true rfl, Nat.le_of_ble_eq_true rfl⟩) (pR_S (hP.sub (ws' := (lwW E (fun i => [aq, az, β 2, β 3, am, ae].getD i 0) (cpN q (fun _ => 0) 6) (cpN z (fun _ => 0) 30) r a (cpN mm (fun _ => 0) 36) (cpN ee (fun _ => 0) 36))) [6, 7, 2, 3, 8, 9] rfl) hK) rfl rfl hl.1 rfl (lv_room (Nat.le_of_ble_eq_true rfl)) dL_would_60 ⟨Nat.le_of_ble_eq_true rfl, Nat.le_of_ble_eq_true rfl⟩) hP (dm hD rfl) hS [6, 7, 2, 3, 8, 9] rfl (by decide) (fun _ => rfl) rfl (fun g H locs hP hS => ?_)
  have hP : va_P E.1 vwCl [(β 0, iA E 6 q), (β 1, iA E 30 z), (β 2, iA E 36 r), (β 3, iA E 36 a), (β 4, iA E 36 mm), (β 5, iA E 36 ee), (aq, iA E 6 g.1.1), (az, iA E 30 g.1.2.1), (am, iA E 36 g.1.2.2.1), (ae, iA E 36 g.1.2.2.2)] H := hP
  refine lv_pop hx hb dL_would_63 rfl ?_
  refine lv_iload_n hx hb dL_would_64 rfl (lv_lk hl rfl) ?_
  refine lv_aload hx hb dL_would_65 (lv_lk hl rfl) ?_
  refine lv_aload hx hb dL_would_67 (lv_lk hl rfl) ?_
  refine lv_aload hx hb dL_would_69 (lv_lk hl rfl) ?_
  refine lv_aload hx hb dL_would_71 (lv_lk hl rfl) ?_
  refine lv_aload hx hb dL_would_73 (lv_lk hl rfl) ?_
  refine lv_aload hx hb dL_would_75 (lv_lk hl rfl) ?_
  refine call_XW (va_runS ⟨hx, hb, hml, hown, hts⟩ (m_L_solve l E (fun i => [aq, az, β 2, β 3, am, ae].getD i 0) hβ2 U (passes st tk) g.1.1 g.1.2.1 r a g.1.2.2.1 g.1.2.2.2 (IB_passes hI tk ht.1 U hU) g.2 k hk) (va_cwS 7 hts (gi_S ml_L_28 st_L_solve it_L cd_L_solve) rfl rfl rfl (by decide +kernel) ⟨Nat.le_of_ble_eq_true rfl, Nat.le_of_ble_eq_true rfl⟩) (pR_S (hP.sub (ws' := (lwW E (fun i => [aq, az, β 2, β 3, am, ae].getD i 0) g.1.1 g.1.2.1 r a g.1.2.2.1 g.1.2.2.2)) [6, 7, 2, 3, 8, 9] rfl) hK) rfl rfl hl.1 rfl (lv_room (Nat.le_of_ble_eq_true rfl)) dL_would_77 ⟨Nat.le_of_ble_eq_true rfl, Nat.le_of_ble_eq_true rfl⟩) hP (dm hD rfl) hS [6, 7, 2, 3, 8, 9] rfl (by decide) (fun _ => rfl) rfl (fun h H locs hP hS => ?_)
  have hP : va_P E.1 vwCl [(β 0, iA E 6 q), (β 1, iA E 30 z), (β 2, iA E 36 r), (β 3, iA E 36 a), (β 4, iA E 36 mm), (β 5, iA E 36 ee), (aq, iA E 6 h.1.1), (az, iA E 30 h.1.2.1), (am, iA E 36 h.1.2.2.1), (ae, iA E 36 h.1.2.2.2)] H := hP
  refine lv_istore (lv' := [(13, .int (I _)), (12, .ref _), (11, .ref _), (10, .ref _), (9, .ref _), (0, .int (I _)), (1, .int (I _)), (2, .int (I _)), (3, .ref _), (4, .ref _), (5, .ref _), (6, .ref _), (7, .ref _), (8, .ref _)]) hx hb dL_would_80 hl (by decide) rfl (fun ls hl => ?_)
  refine lv_iload_n hx hb dL_would_82 rfl (lv_lk hl rfl) ?_
  refine iv_if_eq (tgt := 97) hx hb dL_would_83 (by decide) (by omega) (fun c_83 => ?_) (fun c_83 => ?_)
  · refine lv_iload hx hb dL_would_97 (lv_lk hl rfl) ?_
    refine iv_eq (wdV st k tk c9) (by unfold wdV; rw [if_pos c_83]; rfl) ?_
    refine W_old ?_
    exact W.iret hx hb hrt (fun t ht hW => ⟨rfl, by rw [ht]; exact hP.sub [0, 1, 2, 3, 4, 5] rfl, new_F hS ht⟩) (old_in hS) dL_would_99 hlocks
  · refine lv_aload hx hb dL_would_86 (lv_lk hl rfl) ?_
    refine iv_iconst hx hb dL_would_88 ?_
    refine iv_iald hx hb hK hP 6 rfl (2) (by omega) (by omega) dL_would_89 ?_
    refine lv_aload_n hx hb dL_would_90 rfl (lv_lk hl rfl) ?_
    refine iv_iconst hx hb dL_would_91 ?_
    refine iv_iald hx hb hK hP 0 rfl (2) (by omega) (by omega) dL_would_92 ?_
    refine iv_isub hx hb dL_would_93 ?_
    refine lv_goto (tgt := 99) hx hb dL_would_94 (by decide) ?_
    refine iv_eq (wdV st k tk c9) (by unfold wdV; rw [if_neg c_83, h.2.1 2 (by omega), hL.1 2 (by omega)]) ?_
    refine W_old ?_
    exact W.iret hx hb hrt (fun t ht hW => ⟨rfl, by rw [ht]; exact hP.sub [0, 1, 2, 3, 4, 5] rfl, new_F hS ht⟩) (old_in hS) dL_would_99 hlocks
