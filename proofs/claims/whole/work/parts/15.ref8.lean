/-! the reference, eighth part: the text; written by ref.py -/
set_option maxHeartbeats 4000000 in
set_option maxRecDepth 100000 in
theorem m_X6_accepts_ok (l : Launch) (E : Env3) (ρ : Nat → Nat) (th rc kd nm : Int) (st hi ke tx wy : S) (hρ : dR ρ 6) (N k : Nat) (hk : k ≤ N) (hB : txB N tx) (lo hi9 : Int) (hlo : 0 ≤ lo ∧ lo ≤ 200) (hhi : 0 ≤ hi9 ∧ hi9 ≤ 200) (h9 : k < N ∧ lo ≤ tx k ∧ tx k ≤ hi9) : Met l yX6_accepts (Cond.code yX6_accepts cX6_accepts 4 (some .boolean) :: ALL) ({ frames := 1, cells := 0, slots := 0, locals := 22 }) (pR [.ref (ρ 0), .int (I lo), .int (I hi9)] E (refW E ρ th rc ((N : Int)) ((k : Int)) kd nm st hi ke tx wy)) (qW (some (.int (I 1))) E (refW E ρ th rc ((N : Int)) ((k : Int)) kd nm st hi ke tx wy) (refW E ρ th rc ((N : Int)) (((k + 1 : Nat) : Int)) kd nm st hi ke tx wy)) 0 0 (adIn (refW E ρ th rc ((N : Int)) ((k : Int)) kd nm st hi ke tx wy)) := by
  refine mk_met (by decide) rfl (Nat.le_of_ble_eq_true rfl) ?_
  intro p e s m args below meth c hx hb hrt hml hts hown hlocks hnm hP hK ls hl
  have hown : s.vm.findClass RX6 = some m.cls := hown
  have hl : lv_has ls 4 [(0, .ref (ρ 0)), (1, .int (I lo)), (2, .int (I hi9))] := hl
  have hD : va_D (adIn (refW E ρ th rc ((N : Int)) ((k : Int)) kd nm st hi ke tx wy)) (refW E ρ th rc ((N : Int)) ((k : Int)) kd nm st hi ke tx wy) := D_of_dR hρ rfl
  have hS : va_S (adIn (refW E ρ th rc ((N : Int)) ((k : Int)) kd nm st hi ke tx wy)) s.heap s.heap [] := va_S.rf
  have hB0 := hB.1
  have hBk := hB.2 k
  refine lv_aload_n hx hb dX6_accepts_0 rfl (lv_lk hl rfl) ?_
  refine va_get (D := E.1) (ci := 6) hx hb hts inX6 hown hK.1 hP 0 rfl rfl 8 (by decide) (hts _ fl_X6_137) (fun _ h9 => h9) rfl dX6_accepts_1 ?_
  refine lv_aload_n hx hb dX6_accepts_4 rfl (lv_lk hl rfl) ?_
  refine va_get (D := E.1) (ci := 6) hx hb hts inX6 hown hK.1 hP 0 rfl rfl 6 (by decide) (hts _ fl_X6_134) (fun _ h9 => h9) rfl dX6_accepts_5 ?_
  refine iv_icmp_ge (tgt := 32) hx hb dX6_accepts_8 (by decide) (by omega) (by omega) (fun c_8 => by exfalso; omega) (fun c_8 => ?_)
  refine lv_aload_n hx hb dX6_accepts_11 rfl (lv_lk hl rfl) ?_
  refine va_get (D := E.1) (ci := 6) hx hb hts inX6 hown hK.1 hP 0 rfl rfl 5 (by decide) (hts _ fl_X6_19) (fun _ h9 => h9) rfl dX6_accepts_12 ?_
  refine lv_aload_n hx hb dX6_accepts_15 rfl (lv_lk hl rfl) ?_
  refine va_get (D := E.1) (ci := 6) hx hb hts inX6 hown hK.1 hP 0 rfl rfl 8 (by decide) (hts _ fl_X6_137) (fun _ h9 => h9) rfl dX6_accepts_16 ?_
  refine iv_iald hx hb hK hP 4 rfl (k) (by omega) (by omega) dX6_accepts_19 ?_
  refine lv_iload_n hx hb dX6_accepts_20 rfl (lv_lk hl rfl) ?_
  refine lv_iload_n hx hb dX6_accepts_21 rfl (lv_lk hl rfl) ?_
  refine call_S (va_runS ⟨hx, hb, hml, hown, hts⟩ (m_X6_within l E (tx k) lo hi9 (by omega) (by omega) (by omega)) (va_cwS 3 hts (gi_S ml_X6_43 st_X6_within it_X6 cd_X6_within) rfl rfl rfl (by decide +kernel) ⟨Nat.le_of_ble_eq_true rfl, Nat.le_of_ble_eq_true rfl⟩) (pR_S (hP.sub (ws' := []) [] rfl) hK) rfl rfl hl.1 rfl (lv_room (Nat.le_of_ble_eq_true rfl)) dX6_accepts_22 ⟨Nat.le_of_ble_eq_true rfl, Nat.le_of_ble_eq_true rfl⟩) (fun _ h => h) hS rfl (fun locs hS => ?_)
  refine iv_eq (1) (by rw [if_pos (by omega)]) ?_
  refine iv_if_eq (tgt := 32) hx hb dX6_accepts_25 (by decide) (by omega) (fun c_25 => by exfalso; omega) (fun c_25 => ?_)
  refine iv_iconst hx hb dX6_accepts_28 ?_
  refine lv_goto (tgt := 33) hx hb dX6_accepts_29 (by decide) ?_
  refine lv_istore_n (lv' := [(3, .int (I _)), (0, .ref _), (1, .int (I _)), (2, .int (I _))]) hx hb dX6_accepts_33 rfl hl (by decide) rfl (fun ls hl => ?_)
  refine lv_aload_n hx hb dX6_accepts_34 rfl (lv_lk hl rfl) ?_
  refine lv_dup hx hb dX6_accepts_35 rfl ?_
  refine va_get (D := E.1) (ci := 6) hx hb hts inX6 hown hK.1 hP 0 rfl rfl 8 (by decide) (hts _ fl_X6_137) (fun _ h9 => h9) rfl dX6_accepts_36 ?_
  refine lv_iload_n hx hb dX6_accepts_39 rfl (lv_lk hl rfl) ?_
  refine iv_if_eq (tgt := 47) hx hb dX6_accepts_40 (by decide) (by omega) (fun c_40 => by exfalso; omega) (fun c_40 => ?_)
  refine iv_iconst hx hb dX6_accepts_43 ?_
  refine lv_goto (tgt := 48) hx hb dX6_accepts_44 (by decide) ?_
  refine iv_iadd hx hb dX6_accepts_48 ?_
  refine iv_eq (((k + 1 : Nat) : Int)) (by omega) ?_
  refine va_put (ci := 6) (ty := .int) hx hb hts inX6 tyX6 tyX6_ok nmX6 hown hK.1 hP (dm hD rfl) hS 0 rfl rfl 8 (by decide) (hts _ fl_X6_137) (fun _ h9 => h9) rfl (by decide +kernel) rfl rfl (Nat.le_of_ble_eq_true rfl) dX6_accepts_49 (fun H locs hP _ hS => ?_)
  have hP : va_P E.1 vwCl (refW E ρ th rc ((N : Int)) (((k + 1 : Nat) : Int)) kd nm st hi ke tx wy) H := hP
  refine lv_iload_n hx hb dX6_accepts_52 rfl (lv_lk hl rfl) ?_
  exact W.zret (ty := .boolean) hx hb hrt (by rfl) (fun t ht hW => ⟨rfl, by rw [ht]; exact hP, hS.F ht⟩) hS.2.2 dX6_accepts_53 hlocks
set_option maxHeartbeats 4000000 in
set_option maxRecDepth 100000 in
theorem m_X6_accepts_bad (l : Launch) (E : Env3) (ρ : Nat → Nat) (th rc kd nm : Int) (st hi ke tx wy : S) (hρ : dR ρ 6) (N k : Nat) (hk : k ≤ N) (hB : txB N tx) (lo hi9 : Int) (hlo : 0 ≤ lo ∧ lo ≤ 200) (hhi : 0 ≤ hi9 ∧ hi9 ≤ 200) (h9 : ¬ (k < N ∧ lo ≤ tx k ∧ tx k ≤ hi9)) : Met l yX6_accepts (Cond.code yX6_accepts cX6_accepts 4 (some .boolean) :: ALL) ({ frames := 1, cells := 0, slots := 0, locals := 22 }) (pR [.ref (ρ 0), .int (I lo), .int (I hi9)] E (refW E ρ th rc ((N : Int)) ((k : Int)) kd nm st hi ke tx wy)) (qW (some (.int (I 0))) E (refW E ρ th rc ((N : Int)) ((k : Int)) kd nm st hi ke tx wy) (refW E ρ th rc ((N : Int)) ((k : Int)) kd nm st hi ke tx wy)) 0 0 (adIn (refW E ρ th rc ((N : Int)) ((k : Int)) kd nm st hi ke tx wy)) := by
  refine mk_met (by decide) rfl (Nat.le_of_ble_eq_true rfl) ?_
  intro p e s m args below meth c hx hb hrt hml hts hown hlocks hnm hP hK ls hl
  have hown : s.vm.findClass RX6 = some m.cls := hown
  have hl : lv_has ls 4 [(0, .ref (ρ 0)), (1, .int (I lo)), (2, .int (I hi9))] := hl
  have hD : va_D (adIn (refW E ρ th rc ((N : Int)) ((k : Int)) kd nm st hi ke tx wy)) (refW E ρ th rc ((N : Int)) ((k : Int)) kd nm st hi ke tx wy) := D_of_dR hρ rfl
  have hS : va_S (adIn (refW E ρ th rc ((N : Int)) ((k : Int)) kd nm st hi ke tx wy)) s.heap s.heap [] := va_S.rf
  have hB0 := hB.1
  have hBk := hB.2 k
  refine lv_aload_n hx hb dX6_accepts_0 rfl (lv_lk hl rfl) ?_
  refine va_get (D := E.1) (ci := 6) hx hb hts inX6 hown hK.1 hP 0 rfl rfl 8 (by decide) (hts _ fl_X6_137) (fun _ h9 => h9) rfl dX6_accepts_1 ?_
  refine lv_aload_n hx hb dX6_accepts_4 rfl (lv_lk hl rfl) ?_
  refine va_get (D := E.1) (ci := 6) hx hb hts inX6 hown hK.1 hP 0 rfl rfl 6 (by decide) (hts _ fl_X6_134) (fun _ h9 => h9) rfl dX6_accepts_5 ?_
  refine iv_icmp_ge (tgt := 32) hx hb dX6_accepts_8 (by decide) (by omega) (by omega) (fun c_8 => ?_) (fun c_8 => ?_)
  · refine iv_iconst hx hb dX6_accepts_32 ?_
    refine lv_istore_n (lv' := [(3, .int (I _)), (0, .ref _), (1, .int (I _)), (2, .int (I _))]) hx hb dX6_accepts_33 rfl hl (by decide) rfl (fun ls hl => ?_)
    refine lv_aload_n hx hb dX6_accepts_34 rfl (lv_lk hl rfl) ?_
    refine lv_dup hx hb dX6_accepts_35 rfl ?_
    refine va_get (D := E.1) (ci := 6) hx hb hts inX6 hown hK.1 hP 0 rfl rfl 8 (by decide) (hts _ fl_X6_137) (fun _ h9 => h9) rfl dX6_accepts_36 ?_
    refine lv_iload_n hx hb dX6_accepts_39 rfl (lv_lk hl rfl) ?_
    refine iv_if_eq (tgt := 47) hx hb dX6_accepts_40 (by decide) (by omega) (fun c_40 => ?_) (fun c_40 => by exfalso; omega)
    refine iv_iconst hx hb dX6_accepts_47 ?_
    refine iv_iadd hx hb dX6_accepts_48 ?_
    refine iv_eq ((k : Int)) (by omega) ?_
    refine va_put (ci := 6) (ty := .int) hx hb hts inX6 tyX6 tyX6_ok nmX6 hown hK.1 hP (dm hD rfl) hS 0 rfl rfl 8 (by decide) (hts _ fl_X6_137) (fun _ h9 => h9) rfl (by decide +kernel) rfl rfl (Nat.le_of_ble_eq_true rfl) dX6_accepts_49 (fun H locs hP _ hS => ?_)
    have hP : va_P E.1 vwCl (refW E ρ th rc ((N : Int)) ((k : Int)) kd nm st hi ke tx wy) H := hP
    refine lv_iload_n hx hb dX6_accepts_52 rfl (lv_lk hl rfl) ?_
    exact W.zret (ty := .boolean) hx hb hrt (by rfl) (fun t ht hW => ⟨rfl, by rw [ht]; exact hP, hS.F ht⟩) hS.2.2 dX6_accepts_53 hlocks
  · refine lv_aload_n hx hb dX6_accepts_11 rfl (lv_lk hl rfl) ?_
    refine va_get (D := E.1) (ci := 6) hx hb hts inX6 hown hK.1 hP 0 rfl rfl 5 (by decide) (hts _ fl_X6_19) (fun _ h9 => h9) rfl dX6_accepts_12 ?_
    refine lv_aload_n hx hb dX6_accepts_15 rfl (lv_lk hl rfl) ?_
    refine va_get (D := E.1) (ci := 6) hx hb hts inX6 hown hK.1 hP 0 rfl rfl 8 (by decide) (hts _ fl_X6_137) (fun _ h9 => h9) rfl dX6_accepts_16 ?_
    refine iv_iald hx hb hK hP 4 rfl (k) (by omega) (by omega) dX6_accepts_19 ?_
    refine lv_iload_n hx hb dX6_accepts_20 rfl (lv_lk hl rfl) ?_
    refine lv_iload_n hx hb dX6_accepts_21 rfl (lv_lk hl rfl) ?_
    refine call_S (va_runS ⟨hx, hb, hml, hown, hts⟩ (m_X6_within l E (tx k) lo hi9 (by omega) (by omega) (by omega)) (va_cwS 3 hts (gi_S ml_X6_43 st_X6_within it_X6 cd_X6_within) rfl rfl rfl (by decide +kernel) ⟨Nat.le_of_ble_eq_true rfl, Nat.le_of_ble_eq_true rfl⟩) (pR_S (hP.sub (ws' := []) [] rfl) hK) rfl rfl hl.1 rfl (lv_room (Nat.le_of_ble_eq_true rfl)) dX6_accepts_22 ⟨Nat.le_of_ble_eq_true rfl, Nat.le_of_ble_eq_true rfl⟩) (fun _ h => h) hS rfl (fun locs hS => ?_)
    refine iv_eq (0) (by rw [if_neg (by omega)]) ?_
    refine iv_if_eq (tgt := 32) hx hb dX6_accepts_25 (by decide) (by omega) (fun c_25 => ?_) (fun c_25 => by exfalso; omega)
    refine iv_iconst hx hb dX6_accepts_32 ?_
    refine lv_istore_n (lv' := [(3, .int (I _)), (0, .ref _), (1, .int (I _)), (2, .int (I _))]) hx hb dX6_accepts_33 rfl hl (by decide) rfl (fun ls hl => ?_)
    refine lv_aload_n hx hb dX6_accepts_34 rfl (lv_lk hl rfl) ?_
    refine lv_dup hx hb dX6_accepts_35 rfl ?_
    refine va_get (D := E.1) (ci := 6) hx hb hts inX6 hown hK.1 hP 0 rfl rfl 8 (by decide) (hts _ fl_X6_137) (fun _ h9 => h9) rfl dX6_accepts_36 ?_
    refine lv_iload_n hx hb dX6_accepts_39 rfl (lv_lk hl rfl) ?_
    refine iv_if_eq (tgt := 47) hx hb dX6_accepts_40 (by decide) (by omega) (fun c_40 => ?_) (fun c_40 => by exfalso; omega)
    refine iv_iconst hx hb dX6_accepts_47 ?_
    refine iv_iadd hx hb dX6_accepts_48 ?_
    refine iv_eq ((k : Int)) (by omega) ?_
    refine va_put (ci := 6) (ty := .int) hx hb hts inX6 tyX6 tyX6_ok nmX6 hown hK.1 hP (dm hD rfl) hS 0 rfl rfl 8 (by decide) (hts _ fl_X6_137) (fun _ h9 => h9) rfl (by decide +kernel) rfl rfl (Nat.le_of_ble_eq_true rfl) dX6_accepts_49 (fun H locs hP _ hS => ?_)
    have hP : va_P E.1 vwCl (refW E ρ th rc ((N : Int)) ((k : Int)) kd nm st hi ke tx wy) H := hP
    refine lv_iload_n hx hb dX6_accepts_52 rfl (lv_lk hl rfl) ?_
    exact W.zret (ty := .boolean) hx hb hrt (by rfl) (fun t ht hW => ⟨rfl, by rw [ht]; exact hP, hS.F ht⟩) hS.2.2 dX6_accepts_53 hlocks
set_option maxHeartbeats 4000000 in
set_option maxRecDepth 100000 in
theorem m_X6_readsNumber_ok (l : Launch) (E : Env3) (ρ : Nat → Nat) (th rc kd nm : Int) (st hi ke tx wy : S) (hρ : dR ρ 6) (N k : Nat) (hk : k ≤ N) (hB : txB N tx) (lo hi9 : Int) (hlo : 0 ≤ lo ∧ lo ≤ 1) (hhi : 0 ≤ hi9 ∧ hi9 ≤ 99) (h9 : k < N ∧ 48 + lo ≤ tx k ∧ tx k ≤ 57) : Met l yX6_readsNumber (Cond.code yX6_readsNumber cX6_readsNumber 3 (some .boolean) :: ALL) ({ frames := 2, cells := 0, slots := 0, locals := 45 }) (pR [.ref (ρ 0), .int (I lo), .int (I hi9)] E (refW E ρ th rc ((N : Int)) ((k : Int)) kd nm st hi ke tx wy)) (qW (some (.int (I 1))) E (refW E ρ th rc ((N : Int)) ((k : Int)) kd nm st hi ke tx wy) (refW E ρ th rc ((N : Int)) (((runN (N - (k + 1)) tx (k + 1) (tx k - 48) hi9).1 : Int)) kd ((runN (N - (k + 1)) tx (k + 1) (tx k - 48) hi9).2) st hi ke tx wy)) 0 0 (adIn (refW E ρ th rc ((N : Int)) ((k : Int)) kd nm st hi ke tx wy)) := by
  refine mk_met (by decide) rfl (Nat.le_of_ble_eq_true rfl) ?_
  intro p e s m args below meth c hx hb hrt hml hts hown hlocks hnm hP hK ls hl
  have hown : s.vm.findClass RX6 = some m.cls := hown
  have hl : lv_has ls 3 [(0, .ref (ρ 0)), (1, .int (I lo)), (2, .int (I hi9))] := hl
  have hD : va_D (adIn (refW E ρ th rc ((N : Int)) ((k : Int)) kd nm st hi ke tx wy)) (refW E ρ th rc ((N : Int)) ((k : Int)) kd nm st hi ke tx wy) := D_of_dR hρ rfl
  have hS : va_S (adIn (refW E ρ th rc ((N : Int)) ((k : Int)) kd nm st hi ke tx wy)) s.heap s.heap [] := va_S.rf
  have hB0 := hB.1
  have hBk := hB.2 k
  have CUT12 : ∀ (H : Heap) (locs : List Loc) (ls : Array Slot), va_P E.1 vwCl (refW E ρ th rc ((N : Int)) ((k : Int)) kd nm st hi ke tx wy) H → va_S (adIn (refW E ρ th rc ((N : Int)) ((k : Int)) kd nm st hi ke tx wy)) s.heap H locs → lv_has ls 3 [(0, .ref (ρ 0)), (1, .int (I lo)), (2, .int (I hi9))] → W p l e ({ frames := 2, cells := 0, slots := 0, locals := 45 }) s m args below meth c H locs 0 0 (MQ below (qW (some (.int (I 1))) E (refW E ρ th rc ((N : Int)) ((k : Int)) kd nm st hi ke tx wy) (refW E ρ th rc ((N : Int)) (((runN (N - (k + 1)) tx (k + 1) (tx k - 48) hi9).1 : Int)) kd ((runN (N - (k + 1)) tx (k + 1) (tx k - 48) hi9).2) st hi ke tx wy)) args s 0 0 (adIn (refW E ρ th rc ((N : Int)) ((k : Int)) kd nm st hi ke tx wy))) (F0 m 12 ls [.int (I (48 + lo)), .ref (ρ 0)]) := by
    intro   H locs ls hP hS hl
    refine iv_bipush hx hb dX6_readsNumber_12 (by decide +kernel) ?_
    refine call_F (va_runV ⟨hx, hb, hml, hown, hts⟩ (m_X6_accepts_ok l E ρ th rc kd nm st hi ke tx wy hρ N k (by omega) hB (48 + lo) 57 (by omega) (by omega) (by omega)) (cwV 2 hts (gi_V ml_X6_140 im_X6_accepts sl_X6_accepts it_X6 cd_X6_accepts) rfl rfl rfl (by decide +kernel) ⟨Nat.le_of_ble_eq_true rfl, Nat.le_of_ble_eq_true rfl⟩) (pR_V (q0 := 0) (ci := 6) hP hK rfl rfl) rfl rfl hl.1 rfl (lv_room (Nat.le_of_ble_eq_true rfl)) dX6_readsNumber_14 ⟨Nat.le_of_ble_eq_true rfl, Nat.le_of_ble_eq_true rfl⟩) (dm hD rfl) hS rfl (fun H locs hP hS => ?_)
    have hP : va_P E.1 vwCl (refW E ρ th rc ((N : Int)) (((k + 1 : Nat) : Int)) kd nm st hi ke tx wy) H := hP
    refine iv_if_ne (tgt := 22) hx hb dX6_readsNumber_17 (by decide) (by omega) (fun c_17 => ?_) (fun c_17 => by exfalso; omega)
    refine lv_aload_n hx hb dX6_readsNumber_22 rfl (lv_lk hl rfl) ?_
    refine lv_aload_n hx hb dX6_readsNumber_23 rfl (lv_lk hl rfl) ?_
    refine va_get (D := E.1) (ci := 6) hx hb hts inX6 hown hK.1 hP 0 rfl rfl 5 (by decide) (hts _ fl_X6_19) (fun _ h9 => h9) rfl dX6_readsNumber_24 ?_
    refine lv_aload_n hx hb dX6_readsNumber_27 rfl (lv_lk hl rfl) ?_
    refine va_get (D := E.1) (ci := 6) hx hb hts inX6 hown hK.1 hP 0 rfl rfl 8 (by decide) (hts _ fl_X6_137) (fun _ h9 => h9) rfl dX6_readsNumber_28 ?_
    refine iv_iconst hx hb dX6_readsNumber_31 ?_
    refine iv_isub hx hb dX6_readsNumber_32 ?_
    refine iv_iald hx hb hK hP 4 rfl (k) (by omega) (by omega) dX6_readsNumber_33 ?_
    refine iv_bipush hx hb dX6_readsNumber_34 (by decide +kernel) ?_
    refine iv_isub hx hb dX6_readsNumber_36 ?_
    refine va_put (ci := 6) (ty := .int) hx hb hts inX6 tyX6 tyX6_ok nmX6 hown hK.1 hP (dm hD rfl) hS 0 rfl rfl 10 (by decide) (hts _ fl_X6_144) (fun _ h9 => h9) rfl (by decide +kernel) rfl rfl (Nat.le_of_ble_eq_true rfl) dX6_readsNumber_37 (fun H locs hP _ hS => ?_)
    have hP : va_P E.1 vwCl (refW E ρ th rc ((N : Int)) (((k + 1 : Nat) : Int)) kd (tx k - 48) st hi ke tx wy) H := hP
    have LOOP40 : ∀ (n9 i : Nat) (v : Int), (i + n9 = N) → (0 ≤ v ∧ v ≤ 99) → (runN n9 tx i v hi9 = runN (N - (k + 1)) tx (k + 1) (tx k - 48) hi9) → ∀ (H : Heap) (locs : List Loc) (ls : Array Slot), va_P E.1 vwCl (refW E ρ th rc ((N : Int)) ((i : Int)) kd v st hi ke tx wy) H → va_S (adIn (refW E ρ th rc ((N : Int)) ((k : Int)) kd nm st hi ke tx wy)) s.heap H locs → lv_has ls 3 [(0, .ref (ρ 0)), (1, .int (I lo)), (2, .int (I hi9))] → W p l e ({ frames := 2, cells := 0, slots := 0, locals := 45 }) s m args below meth c H locs 0 0 (MQ below (qW (some (.int (I 1))) E (refW E ρ th rc ((N : Int)) ((k : Int)) kd nm st hi ke tx wy) (refW E ρ th rc ((N : Int)) (((runN (N - (k + 1)) tx (k + 1) (tx k - 48) hi9).1 : Int)) kd ((runN (N - (k + 1)) tx (k + 1) (tx k - 48) hi9).2) st hi ke tx wy)) args s 0 0 (adIn (refW E ρ th rc ((N : Int)) ((k : Int)) kd nm st hi ke tx wy))) (F0 m 40 ls []) := by
      intro n9
      induction n9 with
      | zero =>
        intro  i v hi8 hv9 he9 H locs ls hP hS hl
        refine lv_aload_n hx hb dX6_readsNumber_40 rfl (lv_lk hl rfl) ?_
        refine va_get (D := E.1) (ci := 6) hx hb hts inX6 hown hK.1 hP 0 rfl rfl 10 (by decide) (hts _ fl_X6_144) (fun _ h9 => h9) rfl dX6_readsNumber_41 ?_
        refine iv_if_le (tgt := 138) hx hb dX6_readsNumber_44 (by decide) (by omega) (fun c_44 => ?_) (fun c_44 => ?_)
        · refine iv_iconst hx hb dX6_readsNumber_138 ?_
          exact W.zret (ty := .boolean) hx hb hrt (by rfl) (fun t ht hW => ⟨rfl, by rw [ht]; exact (by rw [← he9]; exact hP), hS.F ht⟩) hS.2.2 dX6_readsNumber_139 hlocks
        · refine lv_aload_n hx hb dX6_readsNumber_47 rfl (lv_lk hl rfl) ?_
          refine va_get (D := E.1) (ci := 6) hx hb hts inX6 hown hK.1 hP 0 rfl rfl 8 (by decide) (hts _ fl_X6_137) (fun _ h9 => h9) rfl dX6_readsNumber_48 ?_
          refine lv_aload_n hx hb dX6_readsNumber_51 rfl (lv_lk hl rfl) ?_
          refine va_get (D := E.1) (ci := 6) hx hb hts inX6 hown hK.1 hP 0 rfl rfl 6 (by decide) (hts _ fl_X6_134) (fun _ h9 => h9) rfl dX6_readsNumber_52 ?_
          refine iv_icmp_ge (tgt := 138) hx hb dX6_readsNumber_55 (by decide) (by omega) (by omega) (fun c_55 => ?_) (fun c_55 => by exfalso; omega)
          refine iv_iconst hx hb dX6_readsNumber_138 ?_
          exact W.zret (ty := .boolean) hx hb hrt (by rfl) (fun t ht hW => ⟨rfl, by rw [ht]; exact (by rw [← he9]; exact hP), hS.F ht⟩) hS.2.2 dX6_readsNumber_139 hlocks
      | succ n9 ih =>
        intro  i v hi8 hv9 he9 H locs ls hP hS hl
        have hBi := hB.2 i (by omega)
        refine lv_aload_n hx hb dX6_readsNumber_40 rfl (lv_lk hl rfl) ?_
        refine va_get (D := E.1) (ci := 6) hx hb hts inX6 hown hK.1 hP 0 rfl rfl 10 (by decide) (hts _ fl_X6_144) (fun _ h9 => h9) rfl dX6_readsNumber_41 ?_
        refine iv_if_le (tgt := 138) hx hb dX6_readsNumber_44 (by decide) (by omega) (fun c_44 => ?_) (fun c_44 => ?_)
        · refine iv_iconst hx hb dX6_readsNumber_138 ?_
          exact W.zret (ty := .boolean) hx hb hrt (by rfl) (fun t ht hW => ⟨rfl, by rw [ht]; exact (by rw [← he9, run_e (by omega)]; exact hP), hS.F ht⟩) hS.2.2 dX6_readsNumber_139 hlocks
        · refine lv_aload_n hx hb dX6_readsNumber_47 rfl (lv_lk hl rfl) ?_
          refine va_get (D := E.1) (ci := 6) hx hb hts inX6 hown hK.1 hP 0 rfl rfl 8 (by decide) (hts _ fl_X6_137) (fun _ h9 => h9) rfl dX6_readsNumber_48 ?_
          refine lv_aload_n hx hb dX6_readsNumber_51 rfl (lv_lk hl rfl) ?_
          refine va_get (D := E.1) (ci := 6) hx hb hts inX6 hown hK.1 hP 0 rfl rfl 6 (by decide) (hts _ fl_X6_134) (fun _ h9 => h9) rfl dX6_readsNumber_52 ?_
          refine iv_icmp_ge (tgt := 138) hx hb dX6_readsNumber_55 (by decide) (by omega) (by omega) (fun c_55 => by exfalso; omega) (fun c_55 => ?_)
          refine lv_aload_n hx hb dX6_readsNumber_58 rfl (lv_lk hl rfl) ?_
          refine va_get (D := E.1) (ci := 6) hx hb hts inX6 hown hK.1 hP 0 rfl rfl 5 (by decide) (hts _ fl_X6_19) (fun _ h9 => h9) rfl dX6_readsNumber_59 ?_
          refine lv_aload_n hx hb dX6_readsNumber_62 rfl (lv_lk hl rfl) ?_
          refine va_get (D := E.1) (ci := 6) hx hb hts inX6 hown hK.1 hP 0 rfl rfl 8 (by decide) (hts _ fl_X6_137) (fun _ h9 => h9) rfl dX6_readsNumber_63 ?_
          refine iv_iald hx hb hK hP 4 rfl (i) (by omega) (by omega) dX6_readsNumber_66 ?_
          refine iv_bipush hx hb dX6_readsNumber_67 (by decide +kernel) ?_
          refine iv_bipush hx hb dX6_readsNumber_69 (by decide +kernel) ?_
          refine call_S (va_runS ⟨hx, hb, hml, hown, hts⟩ (m_X6_within l E (tx i) 48 57 (by omega) (by omega) (by omega)) (va_cwS 3 hts (gi_S ml_X6_43 st_X6_within it_X6 cd_X6_within) rfl rfl rfl (by decide +kernel) ⟨Nat.le_of_ble_eq_true rfl, Nat.le_of_ble_eq_true rfl⟩) (pR_S (hP.sub (ws' := []) [] rfl) hK) rfl rfl hl.1 rfl (lv_room (Nat.le_of_ble_eq_true rfl)) dX6_readsNumber_71 ⟨Nat.le_of_ble_eq_true rfl, Nat.le_of_ble_eq_true rfl⟩) (fun _ h => h) hS rfl (fun locs hS => ?_)
          by_cases hd9 : 48 ≤ tx i ∧ tx i ≤ 57
          · refine iv_eq (1) (by rw [if_pos hd9]) ?_
            refine iv_if_eq (tgt := 138) hx hb dX6_readsNumber_74 (by decide) (by omega) (fun c_74 => by exfalso; omega) (fun c_74 => ?_)
            refine iv_bipush hx hb dX6_readsNumber_77 (by decide +kernel) ?_
            refine lv_aload_n hx hb dX6_readsNumber_79 rfl (lv_lk hl rfl) ?_
            refine va_get (D := E.1) (ci := 6) hx hb hts inX6 hown hK.1 hP 0 rfl rfl 10 (by decide) (hts _ fl_X6_144) (fun _ h9 => h9) rfl dX6_readsNumber_80 ?_
            refine iv_imul hx hb dX6_readsNumber_83 ?_
            refine lv_aload_n hx hb dX6_readsNumber_84 rfl (lv_lk hl rfl) ?_
            refine va_get (D := E.1) (ci := 6) hx hb hts inX6 hown hK.1 hP 0 rfl rfl 5 (by decide) (hts _ fl_X6_19) (fun _ h9 => h9) rfl dX6_readsNumber_85 ?_
            refine lv_aload_n hx hb dX6_readsNumber_88 rfl (lv_lk hl rfl) ?_
            refine va_get (D := E.1) (ci := 6) hx hb hts inX6 hown hK.1 hP 0 rfl rfl 8 (by decide) (hts _ fl_X6_137) (fun _ h9 => h9) rfl dX6_readsNumber_89 ?_
            refine iv_iald hx hb hK hP 4 rfl (i) (by omega) (by omega) dX6_readsNumber_92 ?_
            refine iv_iadd hx hb dX6_readsNumber_93 ?_
            refine iv_bipush hx hb dX6_readsNumber_94 (by decide +kernel) ?_
            refine iv_isub hx hb dX6_readsNumber_96 ?_
            refine lv_iload_n hx hb dX6_readsNumber_97 rfl (lv_lk hl rfl) ?_
            refine iv_icmp_gt (tgt := 138) hx hb dX6_readsNumber_98 (by decide) (by omega) (by omega) (fun c_98 => ?_) (fun c_98 => ?_)
            · refine iv_iconst hx hb dX6_readsNumber_138 ?_
              exact W.zret (ty := .boolean) hx hb hrt (by rfl) (fun t ht hW => ⟨rfl, by rw [ht]; exact (by rw [← he9, run_e (by omega)]; exact hP), hS.F ht⟩) hS.2.2 dX6_readsNumber_139 hlocks
            · refine lv_aload_n hx hb dX6_readsNumber_101 rfl (lv_lk hl rfl) ?_
              refine iv_bipush hx hb dX6_readsNumber_102 (by decide +kernel) ?_
              refine lv_aload_n hx hb dX6_readsNumber_104 rfl (lv_lk hl rfl) ?_
              refine va_get (D := E.1) (ci := 6) hx hb hts inX6 hown hK.1 hP 0 rfl rfl 10 (by decide) (hts _ fl_X6_144) (fun _ h9 => h9) rfl dX6_readsNumber_105 ?_
              refine iv_imul hx hb dX6_readsNumber_108 ?_
              refine lv_aload_n hx hb dX6_readsNumber_109 rfl (lv_lk hl rfl) ?_
              refine va_get (D := E.1) (ci := 6) hx hb hts inX6 hown hK.1 hP 0 rfl rfl 5 (by decide) (hts _ fl_X6_19) (fun _ h9 => h9) rfl dX6_readsNumber_110 ?_
              refine lv_aload_n hx hb dX6_readsNumber_113 rfl (lv_lk hl rfl) ?_
              refine va_get (D := E.1) (ci := 6) hx hb hts inX6 hown hK.1 hP 0 rfl rfl 8 (by decide) (hts _ fl_X6_137) (fun _ h9 => h9) rfl dX6_readsNumber_114 ?_
              refine iv_iald hx hb hK hP 4 rfl (i) (by omega) (by omega) dX6_readsNumber_117 ?_
              refine iv_iadd hx hb dX6_readsNumber_118 ?_
              refine iv_bipush hx hb dX6_readsNumber_119 (by decide +kernel) ?_
              refine iv_isub hx hb dX6_readsNumber_121 ?_
              refine iv_eq (10 * v + tx i - 48) (by omega) ?_
              refine va_put (ci := 6) (ty := .int) hx hb hts inX6 tyX6 tyX6_ok nmX6 hown hK.1 hP (dm hD rfl) hS 0 rfl rfl 10 (by decide) (hts _ fl_X6_144) (fun _ h9 => h9) rfl (by decide +kernel) rfl rfl (Nat.le_of_ble_eq_true rfl) dX6_readsNumber_122 (fun H locs hP _ hS => ?_)
              have hP : va_P E.1 vwCl (refW E ρ th rc ((N : Int)) ((i : Int)) kd (10 * v + tx i - 48) st hi ke tx wy) H := hP
              refine lv_aload_n hx hb dX6_readsNumber_125 rfl (lv_lk hl rfl) ?_
              refine lv_dup hx hb dX6_readsNumber_126 rfl ?_
              refine va_get (D := E.1) (ci := 6) hx hb hts inX6 hown hK.1 hP 0 rfl rfl 8 (by decide) (hts _ fl_X6_137) (fun _ h9 => h9) rfl dX6_readsNumber_127 ?_
              refine iv_iconst hx hb dX6_readsNumber_130 ?_
              refine iv_iadd hx hb dX6_readsNumber_131 ?_
              refine iv_eq (((i + 1 : Nat) : Int)) (by omega) ?_
              refine va_put (ci := 6) (ty := .int) hx hb hts inX6 tyX6 tyX6_ok nmX6 hown hK.1 hP (dm hD rfl) hS 0 rfl rfl 8 (by decide) (hts _ fl_X6_137) (fun _ h9 => h9) rfl (by decide +kernel) rfl rfl (Nat.le_of_ble_eq_true rfl) dX6_readsNumber_132 (fun H locs hP _ hS => ?_)
              have hP : va_P E.1 vwCl (refW E ρ th rc ((N : Int)) (((i + 1 : Nat) : Int)) kd (10 * v + tx i - 48) st hi ke tx wy) H := hP
              refine lv_goto (tgt := 40) hx hb dX6_readsNumber_135 (by decide) ?_
              exact ih (i + 1) (10 * v + tx i - 48) (by omega) (by omega) (by rw [← he9]; exact (run_s (by omega)).symm) H locs ls hP hS (lv_sub hl [0, 1, 2] rfl)
          · refine iv_eq (0) (by rw [if_neg hd9]) ?_
            refine iv_if_eq (tgt := 138) hx hb dX6_readsNumber_74 (by decide) (by omega) (fun c_74 => ?_) (fun c_74 => by exfalso; omega)
            refine iv_iconst hx hb dX6_readsNumber_138 ?_
            exact W.zret (ty := .boolean) hx hb hrt (by rfl) (fun t ht hW => ⟨rfl, by rw [ht]; exact (by rw [← he9, run_e (by omega)]; exact hP), hS.F ht⟩) hS.2.2 dX6_readsNumber_139 hlocks
    exact LOOP40 (N - (k + 1)) (k + 1) (tx k - 48) (by omega) (by omega) rfl _ _ _ hP hS (lv_sub hl [0, 1, 2] rfl)
  refine lv_aload_n hx hb dX6_readsNumber_0 rfl (lv_lk hl rfl) ?_
  refine lv_iload_n hx hb dX6_readsNumber_1 rfl (lv_lk hl rfl) ?_
  refine iv_if_ne (tgt := 10) hx hb dX6_readsNumber_2 (by decide) (by omega) (fun c_2 => ?_) (fun c_2 => ?_)
  · refine iv_bipush hx hb dX6_readsNumber_10 (by decide +kernel) ?_
    refine iv_eq (48 + lo) (by omega) ?_
    exact CUT12  _ _ _ hP hS (lv_sub hl [0, 1, 2] rfl)
  · refine iv_bipush hx hb dX6_readsNumber_5 (by decide +kernel) ?_
    refine lv_goto (tgt := 12) hx hb dX6_readsNumber_7 (by decide) ?_
    refine iv_eq (48 + lo) (by omega) ?_
    exact CUT12  _ _ _ hP hS (lv_sub hl [0, 1, 2] rfl)
set_option maxHeartbeats 4000000 in
set_option maxRecDepth 100000 in
theorem m_X6_readsNumber_bad (l : Launch) (E : Env3) (ρ : Nat → Nat) (th rc kd nm : Int) (st hi ke tx wy : S) (hρ : dR ρ 6) (N k : Nat) (hk : k ≤ N) (hB : txB N tx) (lo hi9 : Int) (hlo : 0 ≤ lo ∧ lo ≤ 1) (hhi : 0 ≤ hi9 ∧ hi9 ≤ 99) (h9 : ¬ (k < N ∧ 48 + lo ≤ tx k ∧ tx k ≤ 57)) : Met l yX6_readsNumber (Cond.code yX6_readsNumber cX6_readsNumber 3 (some .boolean) :: ALL) ({ frames := 2, cells := 0, slots := 0, locals := 45 }) (pR [.ref (ρ 0), .int (I lo), .int (I hi9)] E (refW E ρ th rc ((N : Int)) ((k : Int)) kd nm st hi ke tx wy)) (qW (some (.int (I 0))) E (refW E ρ th rc ((N : Int)) ((k : Int)) kd nm st hi ke tx wy) (refW E ρ th rc ((N : Int)) ((k : Int)) kd nm st hi ke tx wy)) 0 0 (adIn (refW E ρ th rc ((N : Int)) ((k : Int)) kd nm st hi ke tx wy)) := by
  refine mk_met (by decide) rfl (Nat.le_of_ble_eq_true rfl) ?_
  intro p e s m args below meth c hx hb hrt hml hts hown hlocks hnm hP hK ls hl
  have hown : s.vm.findClass RX6 = some m.cls := hown
  have hl : lv_has ls 3 [(0, .ref (ρ 0)), (1, .int (I lo)), (2, .int (I hi9))] := hl
  have hD : va_D (adIn (refW E ρ th rc ((N : Int)) ((k : Int)) kd nm st hi ke tx wy)) (refW E ρ th rc ((N : Int)) ((k : Int)) kd nm st hi ke tx wy) := D_of_dR hρ rfl
  have hS : va_S (adIn (refW E ρ th rc ((N : Int)) ((k : Int)) kd nm st hi ke tx wy)) s.heap s.heap [] := va_S.rf
  have hB0 := hB.1
  have hBk := hB.2 k
  have CUT12 : ∀ (H : Heap) (locs : List Loc) (ls : Array Slot), va_P E.1 vwCl (refW E ρ th rc ((N : Int)) ((k : Int)) kd nm st hi ke tx wy) H → va_S (adIn (refW E ρ th rc ((N : Int)) ((k : Int)) kd nm st hi ke tx wy)) s.heap H locs → lv_has ls 3 [(0, .ref (ρ 0)), (1, .int (I lo)), (2, .int (I hi9))] → W p l e ({ frames := 2, cells := 0, slots := 0, locals := 45 }) s m args below meth c H locs 0 0 (MQ below (qW (some (.int (I 0))) E (refW E ρ th rc ((N : Int)) ((k : Int)) kd nm st hi ke tx wy) (refW E ρ th rc ((N : Int)) ((k : Int)) kd nm st hi ke tx wy)) args s 0 0 (adIn (refW E ρ th rc ((N : Int)) ((k : Int)) kd nm st hi ke tx wy))) (F0 m 12 ls [.int (I (48 + lo)), .ref (ρ 0)]) := by
    intro   H locs ls hP hS hl
    refine iv_bipush hx hb dX6_readsNumber_12 (by decide +kernel) ?_
    refine call_F (va_runV ⟨hx, hb, hml, hown, hts⟩ (m_X6_accepts_bad l E ρ th rc kd nm st hi ke tx wy hρ N k (by omega) hB (48 + lo) 57 (by omega) (by omega) (by omega)) (cwV 2 hts (gi_V ml_X6_140 im_X6_accepts sl_X6_accepts it_X6 cd_X6_accepts) rfl rfl rfl (by decide +kernel) ⟨Nat.le_of_ble_eq_true rfl, Nat.le_of_ble_eq_true rfl⟩) (pR_V (q0 := 0) (ci := 6) hP hK rfl rfl) rfl rfl hl.1 rfl (lv_room (Nat.le_of_ble_eq_true rfl)) dX6_readsNumber_14 ⟨Nat.le_of_ble_eq_true rfl, Nat.le_of_ble_eq_true rfl⟩) (dm hD rfl) hS rfl (fun H locs hP hS => ?_)
    have hP : va_P E.1 vwCl (refW E ρ th rc ((N : Int)) ((k : Int)) kd nm st hi ke tx wy) H := hP
    refine iv_if_ne (tgt := 22) hx hb dX6_readsNumber_17 (by decide) (by omega) (fun c_17 => by exfalso; omega) (fun c_17 => ?_)
    refine iv_iconst hx hb dX6_readsNumber_20 ?_
    exact W.zret (ty := .boolean) hx hb hrt (by rfl) (fun t ht hW => ⟨rfl, by rw [ht]; exact hP, hS.F ht⟩) hS.2.2 dX6_readsNumber_21 hlocks
  refine lv_aload_n hx hb dX6_readsNumber_0 rfl (lv_lk hl rfl) ?_
  refine lv_iload_n hx hb dX6_readsNumber_1 rfl (lv_lk hl rfl) ?_
  refine iv_if_ne (tgt := 10) hx hb dX6_readsNumber_2 (by decide) (by omega) (fun c_2 => ?_) (fun c_2 => ?_)
  · refine iv_bipush hx hb dX6_readsNumber_10 (by decide +kernel) ?_
    refine iv_eq (48 + lo) (by omega) ?_
    exact CUT12  _ _ _ hP hS (lv_sub hl [0, 1, 2] rfl)
  · refine iv_bipush hx hb dX6_readsNumber_5 (by decide +kernel) ?_
    refine lv_goto (tgt := 12) hx hb dX6_readsNumber_7 (by decide) ?_
    refine iv_eq (48 + lo) (by omega) ?_
    exact CUT12  _ _ _ hP hS (lv_sub hl [0, 1, 2] rfl)
set_option maxHeartbeats 4000000 in
set_option maxRecDepth 100000 in
theorem m_X6_readsAct_ok43 (l : Launch) (E : Env3) (ρ : Nat → Nat) (th rc kd nm : Int) (st hi ke tx wy : S) (hρ : dR ρ 6) (N k : Nat) (hk : k ≤ N) (hB : txB N tx) (h8 : k < N) (h7 : tx k = 43) (h9 : k + 1 < N ∧ 48 + 1 ≤ tx (k + 1) ∧ tx (k + 1) ≤ 57) : Met l yX6_readsAct (Cond.code yX6_readsAct cX6_readsAct 1 (some .boolean) :: ALL) ({ frames := 3, cells := 0, slots := 0, locals := 67 }) (pR [.ref (ρ 0)] E (refW E ρ th rc ((N : Int)) ((k : Int)) kd nm st hi ke tx wy)) (qW (some (.int (I 1))) E (refW E ρ th rc ((N : Int)) ((k : Int)) kd nm st hi ke tx wy) (refW E ρ th rc ((N : Int)) (((runN (N - (k + 1 + 1)) tx (k + 1 + 1) (tx (k + 1) - 48) 99).1 : Int)) 43 ((runN (N - (k + 1 + 1)) tx (k + 1 + 1) (tx (k + 1) - 48) 99).2) st hi ke tx wy)) 0 0 (adIn (refW E ρ th rc ((N : Int)) ((k : Int)) kd nm st hi ke tx wy)) := by
  refine mk_met (by decide) rfl (Nat.le_of_ble_eq_true rfl) ?_
  intro p e s m args below meth c hx hb hrt hml hts hown hlocks hnm hP hK ls hl
  have hown : s.vm.findClass RX6 = some m.cls := hown
  have hl : lv_has ls 1 [(0, .ref (ρ 0))] := hl
  have hD : va_D (adIn (refW E ρ th rc ((N : Int)) ((k : Int)) kd nm st hi ke tx wy)) (refW E ρ th rc ((N : Int)) ((k : Int)) kd nm st hi ke tx wy) := D_of_dR hρ rfl
  have hS : va_S (adIn (refW E ρ th rc ((N : Int)) ((k : Int)) kd nm st hi ke tx wy)) s.heap s.heap [] := va_S.rf
  have hB0 := hB.1
  have hBk := hB.2 k
  have hBk1 := hB.2 (k + 1)
  refine lv_aload_n hx hb dX6_readsAct_0 rfl (lv_lk hl rfl) ?_
  refine lv_aload_n hx hb dX6_readsAct_1 rfl (lv_lk hl rfl) ?_
  refine va_get (D := E.1) (ci := 6) hx hb hts inX6 hown hK.1 hP 0 rfl rfl 8 (by decide) (hts _ fl_X6_137) (fun _ h9 => h9) rfl dX6_readsAct_2 ?_
  refine lv_aload_n hx hb dX6_readsAct_5 rfl (lv_lk hl rfl) ?_
  refine va_get (D := E.1) (ci := 6) hx hb hts inX6 hown hK.1 hP 0 rfl rfl 6 (by decide) (hts _ fl_X6_134) (fun _ h9 => h9) rfl dX6_readsAct_6 ?_
  refine iv_icmp_ge (tgt := 24) hx hb dX6_readsAct_9 (by decide) (by omega) (by omega) (fun c_9 => by exfalso; omega) (fun c_9 => ?_)
  refine lv_aload_n hx hb dX6_readsAct_12 rfl (lv_lk hl rfl) ?_
  refine va_get (D := E.1) (ci := 6) hx hb hts inX6 hown hK.1 hP 0 rfl rfl 5 (by decide) (hts _ fl_X6_19) (fun _ h9 => h9) rfl dX6_readsAct_13 ?_
  refine lv_aload_n hx hb dX6_readsAct_16 rfl (lv_lk hl rfl) ?_
  refine va_get (D := E.1) (ci := 6) hx hb hts inX6 hown hK.1 hP 0 rfl rfl 8 (by decide) (hts _ fl_X6_137) (fun _ h9 => h9) rfl dX6_readsAct_17 ?_
  refine iv_iald hx hb hK hP 4 rfl (k) (by omega) (by omega) dX6_readsAct_20 ?_
  refine lv_goto (tgt := 25) hx hb dX6_readsAct_21 (by decide) ?_
  refine iv_eq (43) (by omega) ?_
  refine va_put (ci := 6) (ty := .int) hx hb hts inX6 tyX6 tyX6_ok nmX6 hown hK.1 hP (dm hD rfl) hS 0 rfl rfl 9 (by decide) (hts _ fl_X6_147) (fun _ h9 => h9) rfl (by decide +kernel) rfl rfl (Nat.le_of_ble_eq_true rfl) dX6_readsAct_25 (fun H locs hP _ hS => ?_)
  have hP : va_P E.1 vwCl (refW E ρ th rc ((N : Int)) ((k : Int)) 43 nm st hi ke tx wy) H := hP
  refine lv_aload_n hx hb dX6_readsAct_28 rfl (lv_lk hl rfl) ?_
  refine iv_bipush hx hb dX6_readsAct_29 (by decide +kernel) ?_
  refine iv_bipush hx hb dX6_readsAct_31 (by decide +kernel) ?_
  refine call_F (va_runV ⟨hx, hb, hml, hown, hts⟩ (m_X6_accepts_ok l E ρ th rc 43 nm st hi ke tx wy hρ N k (by omega) hB 43 43 (by omega) (by omega) (by omega)) (cwV 2 hts (gi_V ml_X6_140 im_X6_accepts sl_X6_accepts it_X6 cd_X6_accepts) rfl rfl rfl (by decide +kernel) ⟨Nat.le_of_ble_eq_true rfl, Nat.le_of_ble_eq_true rfl⟩) (pR_V (q0 := 0) (ci := 6) hP hK rfl rfl) rfl rfl hl.1 rfl (lv_room (Nat.le_of_ble_eq_true rfl)) dX6_readsAct_33 ⟨Nat.le_of_ble_eq_true rfl, Nat.le_of_ble_eq_true rfl⟩) (dm hD rfl) hS rfl (fun H locs hP hS => ?_)
  have hP : va_P E.1 vwCl (refW E ρ th rc ((N : Int)) (((k + 1 : Nat) : Int)) 43 nm st hi ke tx wy) H := hP
  refine iv_if_eq (tgt := 47) hx hb dX6_readsAct_36 (by decide) (by omega) (fun c_36 => by exfalso; omega) (fun c_36 => ?_)
  refine lv_aload_n hx hb dX6_readsAct_39 rfl (lv_lk hl rfl) ?_
  refine iv_iconst hx hb dX6_readsAct_40 ?_
  refine iv_bipush hx hb dX6_readsAct_41 (by decide +kernel) ?_
  refine call_F (va_runV ⟨hx, hb, hml, hown, hts⟩ (m_X6_readsNumber_ok l E ρ th rc 43 nm st hi ke tx wy hρ N (k + 1) (by omega) hB 1 99 (by omega) (by omega) (by omega)) (cwV 2 hts (gi_V ml_X6_150 im_X6_readsNumber sl_X6_readsNumber it_X6 cd_X6_readsNumber) rfl rfl rfl (by decide +kernel) ⟨Nat.le_of_ble_eq_true rfl, Nat.le_of_ble_eq_true rfl⟩) (pR_V (q0 := 0) (ci := 6) hP hK rfl rfl) rfl rfl hl.1 rfl (lv_room (Nat.le_of_ble_eq_true rfl)) dX6_readsAct_43 ⟨Nat.le_of_ble_eq_true rfl, Nat.le_of_ble_eq_true rfl⟩) (dm hD rfl) hS rfl (fun H locs hP hS => ?_)
  have hP : va_P E.1 vwCl (refW E ρ th rc ((N : Int)) (((runN (N - (k + 1 + 1)) tx (k + 1 + 1) (tx (k + 1) - 48) 99).1 : Int)) 43 ((runN (N - (k + 1 + 1)) tx (k + 1 + 1) (tx (k + 1) - 48) 99).2) st hi ke tx wy) H := hP
  exact W.zret (ty := .boolean) hx hb hrt (by rfl) (fun t ht hW => ⟨rfl, by rw [ht]; exact hP, hS.F ht⟩) hS.2.2 dX6_readsAct_46 hlocks
set_option maxHeartbeats 4000000 in
set_option maxRecDepth 100000 in
theorem m_X6_readsAct_bad43 (l : Launch) (E : Env3) (ρ : Nat → Nat) (th rc kd nm : Int) (st hi ke tx wy : S) (hρ : dR ρ 6) (N k : Nat) (hk : k ≤ N) (hB : txB N tx) (h8 : k < N) (h7 : tx k = 43) (h9 : ¬ (k + 1 < N ∧ 48 + 1 ≤ tx (k + 1) ∧ tx (k + 1) ≤ 57)) : Met l yX6_readsAct (Cond.code yX6_readsAct cX6_readsAct 1 (some .boolean) :: ALL) ({ frames := 3, cells := 0, slots := 0, locals := 67 }) (pR [.ref (ρ 0)] E (refW E ρ th rc ((N : Int)) ((k : Int)) kd nm st hi ke tx wy)) (qW (some (.int (I 0))) E (refW E ρ th rc ((N : Int)) ((k : Int)) kd nm st hi ke tx wy) (refW E ρ th rc ((N : Int)) (((k + 1 : Nat) : Int)) 43 nm st hi ke tx wy)) 0 0 (adIn (refW E ρ th rc ((N : Int)) ((k : Int)) kd nm st hi ke tx wy)) := by
  refine mk_met (by decide) rfl (Nat.le_of_ble_eq_true rfl) ?_
  intro p e s m args below meth c hx hb hrt hml hts hown hlocks hnm hP hK ls hl
  have hown : s.vm.findClass RX6 = some m.cls := hown
  have hl : lv_has ls 1 [(0, .ref (ρ 0))] := hl
  have hD : va_D (adIn (refW E ρ th rc ((N : Int)) ((k : Int)) kd nm st hi ke tx wy)) (refW E ρ th rc ((N : Int)) ((k : Int)) kd nm st hi ke tx wy) := D_of_dR hρ rfl
  have hS : va_S (adIn (refW E ρ th rc ((N : Int)) ((k : Int)) kd nm st hi ke tx wy)) s.heap s.heap [] := va_S.rf
  have hB0 := hB.1
  have hBk := hB.2 k
  have hBk1 := hB.2 (k + 1)
  refine lv_aload_n hx hb dX6_readsAct_0 rfl (lv_lk hl rfl) ?_
  refine lv_aload_n hx hb dX6_readsAct_1 rfl (lv_lk hl rfl) ?_
  refine va_get (D := E.1) (ci := 6) hx hb hts inX6 hown hK.1 hP 0 rfl rfl 8 (by decide) (hts _ fl_X6_137) (fun _ h9 => h9) rfl dX6_readsAct_2 ?_
  refine lv_aload_n hx hb dX6_readsAct_5 rfl (lv_lk hl rfl) ?_
  refine va_get (D := E.1) (ci := 6) hx hb hts inX6 hown hK.1 hP 0 rfl rfl 6 (by decide) (hts _ fl_X6_134) (fun _ h9 => h9) rfl dX6_readsAct_6 ?_
  refine iv_icmp_ge (tgt := 24) hx hb dX6_readsAct_9 (by decide) (by omega) (by omega) (fun c_9 => by exfalso; omega) (fun c_9 => ?_)
  refine lv_aload_n hx hb dX6_readsAct_12 rfl (lv_lk hl rfl) ?_
  refine va_get (D := E.1) (ci := 6) hx hb hts inX6 hown hK.1 hP 0 rfl rfl 5 (by decide) (hts _ fl_X6_19) (fun _ h9 => h9) rfl dX6_readsAct_13 ?_
  refine lv_aload_n hx hb dX6_readsAct_16 rfl (lv_lk hl rfl) ?_
  refine va_get (D := E.1) (ci := 6) hx hb hts inX6 hown hK.1 hP 0 rfl rfl 8 (by decide) (hts _ fl_X6_137) (fun _ h9 => h9) rfl dX6_readsAct_17 ?_
  refine iv_iald hx hb hK hP 4 rfl (k) (by omega) (by omega) dX6_readsAct_20 ?_
  refine lv_goto (tgt := 25) hx hb dX6_readsAct_21 (by decide) ?_
  refine iv_eq (43) (by omega) ?_
  refine va_put (ci := 6) (ty := .int) hx hb hts inX6 tyX6 tyX6_ok nmX6 hown hK.1 hP (dm hD rfl) hS 0 rfl rfl 9 (by decide) (hts _ fl_X6_147) (fun _ h9 => h9) rfl (by decide +kernel) rfl rfl (Nat.le_of_ble_eq_true rfl) dX6_readsAct_25 (fun H locs hP _ hS => ?_)
  have hP : va_P E.1 vwCl (refW E ρ th rc ((N : Int)) ((k : Int)) 43 nm st hi ke tx wy) H := hP
  refine lv_aload_n hx hb dX6_readsAct_28 rfl (lv_lk hl rfl) ?_
  refine iv_bipush hx hb dX6_readsAct_29 (by decide +kernel) ?_
  refine iv_bipush hx hb dX6_readsAct_31 (by decide +kernel) ?_
  refine call_F (va_runV ⟨hx, hb, hml, hown, hts⟩ (m_X6_accepts_ok l E ρ th rc 43 nm st hi ke tx wy hρ N k (by omega) hB 43 43 (by omega) (by omega) (by omega)) (cwV 2 hts (gi_V ml_X6_140 im_X6_accepts sl_X6_accepts it_X6 cd_X6_accepts) rfl rfl rfl (by decide +kernel) ⟨Nat.le_of_ble_eq_true rfl, Nat.le_of_ble_eq_true rfl⟩) (pR_V (q0 := 0) (ci := 6) hP hK rfl rfl) rfl rfl hl.1 rfl (lv_room (Nat.le_of_ble_eq_true rfl)) dX6_readsAct_33 ⟨Nat.le_of_ble_eq_true rfl, Nat.le_of_ble_eq_true rfl⟩) (dm hD rfl) hS rfl (fun H locs hP hS => ?_)
  have hP : va_P E.1 vwCl (refW E ρ th rc ((N : Int)) (((k + 1 : Nat) : Int)) 43 nm st hi ke tx wy) H := hP
  refine iv_if_eq (tgt := 47) hx hb dX6_readsAct_36 (by decide) (by omega) (fun c_36 => by exfalso; omega) (fun c_36 => ?_)
  refine lv_aload_n hx hb dX6_readsAct_39 rfl (lv_lk hl rfl) ?_
  refine iv_iconst hx hb dX6_readsAct_40 ?_
  refine iv_bipush hx hb dX6_readsAct_41 (by decide +kernel) ?_
  refine call_F (va_runV ⟨hx, hb, hml, hown, hts⟩ (m_X6_readsNumber_bad l E ρ th rc 43 nm st hi ke tx wy hρ N (k + 1) (by omega) hB 1 99 (by omega) (by omega) (by omega)) (cwV 2 hts (gi_V ml_X6_150 im_X6_readsNumber sl_X6_readsNumber it_X6 cd_X6_readsNumber) rfl rfl rfl (by decide +kernel) ⟨Nat.le_of_ble_eq_true rfl, Nat.le_of_ble_eq_true rfl⟩) (pR_V (q0 := 0) (ci := 6) hP hK rfl rfl) rfl rfl hl.1 rfl (lv_room (Nat.le_of_ble_eq_true rfl)) dX6_readsAct_43 ⟨Nat.le_of_ble_eq_true rfl, Nat.le_of_ble_eq_true rfl⟩) (dm hD rfl) hS rfl (fun H locs hP hS => ?_)
  have hP : va_P E.1 vwCl (refW E ρ th rc ((N : Int)) (((k + 1 : Nat) : Int)) 43 nm st hi ke tx wy) H := hP
  exact W.zret (ty := .boolean) hx hb hrt (by rfl) (fun t ht hW => ⟨rfl, by rw [ht]; exact hP, hS.F ht⟩) hS.2.2 dX6_readsAct_46 hlocks
set_option maxHeartbeats 4000000 in
set_option maxRecDepth 100000 in
theorem m_X6_readsAct_ok63 (l : Launch) (E : Env3) (ρ : Nat → Nat) (th rc kd nm : Int) (st hi ke tx wy : S) (hρ : dR ρ 6) (N k : Nat) (hk : k ≤ N) (hB : txB N tx) (h8 : k < N) (h7 : tx k = 63) (h9 : k + 1 < N ∧ 48 + 0 ≤ tx (k + 1) ∧ tx (k + 1) ≤ 57) : Met l yX6_readsAct (Cond.code yX6_readsAct cX6_readsAct 1 (some .boolean) :: ALL) ({ frames := 3, cells := 0, slots := 0, locals := 67 }) (pR [.ref (ρ 0)] E (refW E ρ th rc ((N : Int)) ((k : Int)) kd nm st hi ke tx wy)) (qW (some (.int (I 1))) E (refW E ρ th rc ((N : Int)) ((k : Int)) kd nm st hi ke tx wy) (refW E ρ th rc ((N : Int)) (((runN (N - (k + 1 + 1)) tx (k + 1 + 1) (tx (k + 1) - 48) 35).1 : Int)) 63 ((runN (N - (k + 1 + 1)) tx (k + 1 + 1) (tx (k + 1) - 48) 35).2) st hi ke tx wy)) 0 0 (adIn (refW E ρ th rc ((N : Int)) ((k : Int)) kd nm st hi ke tx wy)) := by
  refine mk_met (by decide) rfl (Nat.le_of_ble_eq_true rfl) ?_
  intro p e s m args below meth c hx hb hrt hml hts hown hlocks hnm hP hK ls hl
  have hown : s.vm.findClass RX6 = some m.cls := hown
  have hl : lv_has ls 1 [(0, .ref (ρ 0))] := hl
  have hD : va_D (adIn (refW E ρ th rc ((N : Int)) ((k : Int)) kd nm st hi ke tx wy)) (refW E ρ th rc ((N : Int)) ((k : Int)) kd nm st hi ke tx wy) := D_of_dR hρ rfl
  have hS : va_S (adIn (refW E ρ th rc ((N : Int)) ((k : Int)) kd nm st hi ke tx wy)) s.heap s.heap [] := va_S.rf
  have hB0 := hB.1
  have hBk := hB.2 k
  have hBk1 := hB.2 (k + 1)
  refine lv_aload_n hx hb dX6_readsAct_0 rfl (lv_lk hl rfl) ?_
  refine lv_aload_n hx hb dX6_readsAct_1 rfl (lv_lk hl rfl) ?_
  refine va_get (D := E.1) (ci := 6) hx hb hts inX6 hown hK.1 hP 0 rfl rfl 8 (by decide) (hts _ fl_X6_137) (fun _ h9 => h9) rfl dX6_readsAct_2 ?_
  refine lv_aload_n hx hb dX6_readsAct_5 rfl (lv_lk hl rfl) ?_
  refine va_get (D := E.1) (ci := 6) hx hb hts inX6 hown hK.1 hP 0 rfl rfl 6 (by decide) (hts _ fl_X6_134) (fun _ h9 => h9) rfl dX6_readsAct_6 ?_
  refine iv_icmp_ge (tgt := 24) hx hb dX6_readsAct_9 (by decide) (by omega) (by omega) (fun c_9 => by exfalso; omega) (fun c_9 => ?_)
  refine lv_aload_n hx hb dX6_readsAct_12 rfl (lv_lk hl rfl) ?_
  refine va_get (D := E.1) (ci := 6) hx hb hts inX6 hown hK.1 hP 0 rfl rfl 5 (by decide) (hts _ fl_X6_19) (fun _ h9 => h9) rfl dX6_readsAct_13 ?_
  refine lv_aload_n hx hb dX6_readsAct_16 rfl (lv_lk hl rfl) ?_
  refine va_get (D := E.1) (ci := 6) hx hb hts inX6 hown hK.1 hP 0 rfl rfl 8 (by decide) (hts _ fl_X6_137) (fun _ h9 => h9) rfl dX6_readsAct_17 ?_
  refine iv_iald hx hb hK hP 4 rfl (k) (by omega) (by omega) dX6_readsAct_20 ?_
  refine lv_goto (tgt := 25) hx hb dX6_readsAct_21 (by decide) ?_
  refine iv_eq (63) (by omega) ?_
  refine va_put (ci := 6) (ty := .int) hx hb hts inX6 tyX6 tyX6_ok nmX6 hown hK.1 hP (dm hD rfl) hS 0 rfl rfl 9 (by decide) (hts _ fl_X6_147) (fun _ h9 => h9) rfl (by decide +kernel) rfl rfl (Nat.le_of_ble_eq_true rfl) dX6_readsAct_25 (fun H locs hP _ hS => ?_)
  have hP : va_P E.1 vwCl (refW E ρ th rc ((N : Int)) ((k : Int)) 63 nm st hi ke tx wy) H := hP
  refine lv_aload_n hx hb dX6_readsAct_28 rfl (lv_lk hl rfl) ?_
  refine iv_bipush hx hb dX6_readsAct_29 (by decide +kernel) ?_
  refine iv_bipush hx hb dX6_readsAct_31 (by decide +kernel) ?_
  refine call_F (va_runV ⟨hx, hb, hml, hown, hts⟩ (m_X6_accepts_bad l E ρ th rc 63 nm st hi ke tx wy hρ N k (by omega) hB 43 43 (by omega) (by omega) (by omega)) (cwV 2 hts (gi_V ml_X6_140 im_X6_accepts sl_X6_accepts it_X6 cd_X6_accepts) rfl rfl rfl (by decide +kernel) ⟨Nat.le_of_ble_eq_true rfl, Nat.le_of_ble_eq_true rfl⟩) (pR_V (q0 := 0) (ci := 6) hP hK rfl rfl) rfl rfl hl.1 rfl (lv_room (Nat.le_of_ble_eq_true rfl)) dX6_readsAct_33 ⟨Nat.le_of_ble_eq_true rfl, Nat.le_of_ble_eq_true rfl⟩) (dm hD rfl) hS rfl (fun H locs hP hS => ?_)
  have hP : va_P E.1 vwCl (refW E ρ th rc ((N : Int)) ((k : Int)) 63 nm st hi ke tx wy) H := hP
  refine iv_if_eq (tgt := 47) hx hb dX6_readsAct_36 (by decide) (by omega) (fun c_36 => ?_) (fun c_36 => by exfalso; omega)
  refine lv_aload_n hx hb dX6_readsAct_47 rfl (lv_lk hl rfl) ?_
  refine iv_bipush hx hb dX6_readsAct_48 (by decide +kernel) ?_
  refine iv_bipush hx hb dX6_readsAct_50 (by decide +kernel) ?_
  refine call_F (va_runV ⟨hx, hb, hml, hown, hts⟩ (m_X6_accepts_ok l E ρ th rc 63 nm st hi ke tx wy hρ N k (by omega) hB 63 63 (by omega) (by omega) (by omega)) (cwV 2 hts (gi_V ml_X6_140 im_X6_accepts sl_X6_accepts it_X6 cd_X6_accepts) rfl rfl rfl (by decide +kernel) ⟨Nat.le_of_ble_eq_true rfl, Nat.le_of_ble_eq_true rfl⟩) (pR_V (q0 := 0) (ci := 6) hP hK rfl rfl) rfl rfl hl.1 rfl (lv_room (Nat.le_of_ble_eq_true rfl)) dX6_readsAct_52 ⟨Nat.le_of_ble_eq_true rfl, Nat.le_of_ble_eq_true rfl⟩) (dm hD rfl) hS rfl (fun H locs hP hS => ?_)
  have hP : va_P E.1 vwCl (refW E ρ th rc ((N : Int)) (((k + 1 : Nat) : Int)) 63 nm st hi ke tx wy) H := hP
  refine iv_if_eq (tgt := 72) hx hb dX6_readsAct_55 (by decide) (by omega) (fun c_55 => by exfalso; omega) (fun c_55 => ?_)
  refine lv_aload_n hx hb dX6_readsAct_58 rfl (lv_lk hl rfl) ?_
  refine iv_iconst hx hb dX6_readsAct_59 ?_
  refine iv_bipush hx hb dX6_readsAct_60 (by decide +kernel) ?_
  refine call_F (va_runV ⟨hx, hb, hml, hown, hts⟩ (m_X6_readsNumber_ok l E ρ th rc 63 nm st hi ke tx wy hρ N (k + 1) (by omega) hB 0 35 (by omega) (by omega) (by omega)) (cwV 2 hts (gi_V ml_X6_150 im_X6_readsNumber sl_X6_readsNumber it_X6 cd_X6_readsNumber) rfl rfl rfl (by decide +kernel) ⟨Nat.le_of_ble_eq_true rfl, Nat.le_of_ble_eq_true rfl⟩) (pR_V (q0 := 0) (ci := 6) hP hK rfl rfl) rfl rfl hl.1 rfl (lv_room (Nat.le_of_ble_eq_true rfl)) dX6_readsAct_62 ⟨Nat.le_of_ble_eq_true rfl, Nat.le_of_ble_eq_true rfl⟩) (dm hD rfl) hS rfl (fun H locs hP hS => ?_)
  have hP : va_P E.1 vwCl (refW E ρ th rc ((N : Int)) (((runN (N - (k + 1 + 1)) tx (k + 1 + 1) (tx (k + 1) - 48) 35).1 : Int)) 63 ((runN (N - (k + 1 + 1)) tx (k + 1 + 1) (tx (k + 1) - 48) 35).2) st hi ke tx wy) H := hP
  refine iv_if_eq (tgt := 72) hx hb dX6_readsAct_65 (by decide) (by omega) (fun c_65 => by exfalso; omega) (fun c_65 => ?_)
  refine iv_iconst hx hb dX6_readsAct_68 ?_
  refine lv_goto (tgt := 73) hx hb dX6_readsAct_69 (by decide) ?_
  exact W.zret (ty := .boolean) hx hb hrt (by rfl) (fun t ht hW => ⟨rfl, by rw [ht]; exact hP, hS.F ht⟩) hS.2.2 dX6_readsAct_73 hlocks
set_option maxHeartbeats 4000000 in
set_option maxRecDepth 100000 in
theorem m_X6_readsAct_bad63 (l : Launch) (E : Env3) (ρ : Nat → Nat) (th rc kd nm : Int) (st hi ke tx wy : S) (hρ : dR ρ 6) (N k : Nat) (hk : k ≤ N) (hB : txB N tx) (h8 : k < N) (h7 : tx k = 63) (h9 : ¬ (k + 1 < N ∧ 48 + 0 ≤ tx (k + 1) ∧ tx (k + 1) ≤ 57)) : Met l yX6_readsAct (Cond.code yX6_readsAct cX6_readsAct 1 (some .boolean) :: ALL) ({ frames := 3, cells := 0, slots := 0, locals := 67 }) (pR [.ref (ρ 0)] E (refW E ρ th rc ((N : Int)) ((k : Int)) kd nm st hi ke tx wy)) (qW (some (.int (I 0))) E (refW E ρ th rc ((N : Int)) ((k : Int)) kd nm st hi ke tx wy) (refW E ρ th rc ((N : Int)) (((k + 1 : Nat) : Int)) 63 nm st hi ke tx wy)) 0 0 (adIn (refW E ρ th rc ((N : Int)) ((k : Int)) kd nm st hi ke tx wy)) := by
  refine mk_met (by decide) rfl (Nat.le_of_ble_eq_true rfl) ?_
  intro p e s m args below meth c hx hb hrt hml hts hown hlocks hnm hP hK ls hl
  have hown : s.vm.findClass RX6 = some m.cls := hown
  have hl : lv_has ls 1 [(0, .ref (ρ 0))] := hl
  have hD : va_D (adIn (refW E ρ th rc ((N : Int)) ((k : Int)) kd nm st hi ke tx wy)) (refW E ρ th rc ((N : Int)) ((k : Int)) kd nm st hi ke tx wy) := D_of_dR hρ rfl
  have hS : va_S (adIn (refW E ρ th rc ((N : Int)) ((k : Int)) kd nm st hi ke tx wy)) s.heap s.heap [] := va_S.rf
  have hB0 := hB.1
  have hBk := hB.2 k
  have hBk1 := hB.2 (k + 1)
  refine lv_aload_n hx hb dX6_readsAct_0 rfl (lv_lk hl rfl) ?_
  refine lv_aload_n hx hb dX6_readsAct_1 rfl (lv_lk hl rfl) ?_
  refine va_get (D := E.1) (ci := 6) hx hb hts inX6 hown hK.1 hP 0 rfl rfl 8 (by decide) (hts _ fl_X6_137) (fun _ h9 => h9) rfl dX6_readsAct_2 ?_
  refine lv_aload_n hx hb dX6_readsAct_5 rfl (lv_lk hl rfl) ?_
  refine va_get (D := E.1) (ci := 6) hx hb hts inX6 hown hK.1 hP 0 rfl rfl 6 (by decide) (hts _ fl_X6_134) (fun _ h9 => h9) rfl dX6_readsAct_6 ?_
  refine iv_icmp_ge (tgt := 24) hx hb dX6_readsAct_9 (by decide) (by omega) (by omega) (fun c_9 => by exfalso; omega) (fun c_9 => ?_)
  refine lv_aload_n hx hb dX6_readsAct_12 rfl (lv_lk hl rfl) ?_
  refine va_get (D := E.1) (ci := 6) hx hb hts inX6 hown hK.1 hP 0 rfl rfl 5 (by decide) (hts _ fl_X6_19) (fun _ h9 => h9) rfl dX6_readsAct_13 ?_
  refine lv_aload_n hx hb dX6_readsAct_16 rfl (lv_lk hl rfl) ?_
  refine va_get (D := E.1) (ci := 6) hx hb hts inX6 hown hK.1 hP 0 rfl rfl 8 (by decide) (hts _ fl_X6_137) (fun _ h9 => h9) rfl dX6_readsAct_17 ?_
  refine iv_iald hx hb hK hP 4 rfl (k) (by omega) (by omega) dX6_readsAct_20 ?_
  refine lv_goto (tgt := 25) hx hb dX6_readsAct_21 (by decide) ?_
  refine iv_eq (63) (by omega) ?_
  refine va_put (ci := 6) (ty := .int) hx hb hts inX6 tyX6 tyX6_ok nmX6 hown hK.1 hP (dm hD rfl) hS 0 rfl rfl 9 (by decide) (hts _ fl_X6_147) (fun _ h9 => h9) rfl (by decide +kernel) rfl rfl (Nat.le_of_ble_eq_true rfl) dX6_readsAct_25 (fun H locs hP _ hS => ?_)
  have hP : va_P E.1 vwCl (refW E ρ th rc ((N : Int)) ((k : Int)) 63 nm st hi ke tx wy) H := hP
  refine lv_aload_n hx hb dX6_readsAct_28 rfl (lv_lk hl rfl) ?_
  refine iv_bipush hx hb dX6_readsAct_29 (by decide +kernel) ?_
  refine iv_bipush hx hb dX6_readsAct_31 (by decide +kernel) ?_
  refine call_F (va_runV ⟨hx, hb, hml, hown, hts⟩ (m_X6_accepts_bad l E ρ th rc 63 nm st hi ke tx wy hρ N k (by omega) hB 43 43 (by omega) (by omega) (by omega)) (cwV 2 hts (gi_V ml_X6_140 im_X6_accepts sl_X6_accepts it_X6 cd_X6_accepts) rfl rfl rfl (by decide +kernel) ⟨Nat.le_of_ble_eq_true rfl, Nat.le_of_ble_eq_true rfl⟩) (pR_V (q0 := 0) (ci := 6) hP hK rfl rfl) rfl rfl hl.1 rfl (lv_room (Nat.le_of_ble_eq_true rfl)) dX6_readsAct_33 ⟨Nat.le_of_ble_eq_true rfl, Nat.le_of_ble_eq_true rfl⟩) (dm hD rfl) hS rfl (fun H locs hP hS => ?_)
  have hP : va_P E.1 vwCl (refW E ρ th rc ((N : Int)) ((k : Int)) 63 nm st hi ke tx wy) H := hP
  refine iv_if_eq (tgt := 47) hx hb dX6_readsAct_36 (by decide) (by omega) (fun c_36 => ?_) (fun c_36 => by exfalso; omega)
  refine lv_aload_n hx hb dX6_readsAct_47 rfl (lv_lk hl rfl) ?_
  refine iv_bipush hx hb dX6_readsAct_48 (by decide +kernel) ?_
  refine iv_bipush hx hb dX6_readsAct_50 (by decide +kernel) ?_
  refine call_F (va_runV ⟨hx, hb, hml, hown, hts⟩ (m_X6_accepts_ok l E ρ th rc 63 nm st hi ke tx wy hρ N k (by omega) hB 63 63 (by omega) (by omega) (by omega)) (cwV 2 hts (gi_V ml_X6_140 im_X6_accepts sl_X6_accepts it_X6 cd_X6_accepts) rfl rfl rfl (by decide +kernel) ⟨Nat.le_of_ble_eq_true rfl, Nat.le_of_ble_eq_true rfl⟩) (pR_V (q0 := 0) (ci := 6) hP hK rfl rfl) rfl rfl hl.1 rfl (lv_room (Nat.le_of_ble_eq_true rfl)) dX6_readsAct_52 ⟨Nat.le_of_ble_eq_true rfl, Nat.le_of_ble_eq_true rfl⟩) (dm hD rfl) hS rfl (fun H locs hP hS => ?_)
  have hP : va_P E.1 vwCl (refW E ρ th rc ((N : Int)) (((k + 1 : Nat) : Int)) 63 nm st hi ke tx wy) H := hP
  refine iv_if_eq (tgt := 72) hx hb dX6_readsAct_55 (by decide) (by omega) (fun c_55 => by exfalso; omega) (fun c_55 => ?_)
  refine lv_aload_n hx hb dX6_readsAct_58 rfl (lv_lk hl rfl) ?_
  refine iv_iconst hx hb dX6_readsAct_59 ?_
  refine iv_bipush hx hb dX6_readsAct_60 (by decide +kernel) ?_
  refine call_F (va_runV ⟨hx, hb, hml, hown, hts⟩ (m_X6_readsNumber_bad l E ρ th rc 63 nm st hi ke tx wy hρ N (k + 1) (by omega) hB 0 35 (by omega) (by omega) (by omega)) (cwV 2 hts (gi_V ml_X6_150 im_X6_readsNumber sl_X6_readsNumber it_X6 cd_X6_readsNumber) rfl rfl rfl (by decide +kernel) ⟨Nat.le_of_ble_eq_true rfl, Nat.le_of_ble_eq_true rfl⟩) (pR_V (q0 := 0) (ci := 6) hP hK rfl rfl) rfl rfl hl.1 rfl (lv_room (Nat.le_of_ble_eq_true rfl)) dX6_readsAct_62 ⟨Nat.le_of_ble_eq_true rfl, Nat.le_of_ble_eq_true rfl⟩) (dm hD rfl) hS rfl (fun H locs hP hS => ?_)
  have hP : va_P E.1 vwCl (refW E ρ th rc ((N : Int)) (((k + 1 : Nat) : Int)) 63 nm st hi ke tx wy) H := hP
  refine iv_if_eq (tgt := 72) hx hb dX6_readsAct_65 (by decide) (by omega) (fun c_65 => ?_) (fun c_65 => by exfalso; omega)
  refine iv_iconst hx hb dX6_readsAct_72 ?_
  exact W.zret (ty := .boolean) hx hb hrt (by rfl) (fun t ht hW => ⟨rfl, by rw [ht]; exact hP, hS.F ht⟩) hS.2.2 dX6_readsAct_73 hlocks
set_option maxHeartbeats 4000000 in
set_option maxRecDepth 100000 in
theorem m_X6_readsAct_none (l : Launch) (E : Env3) (ρ : Nat → Nat) (th rc kd nm : Int) (st hi ke tx wy : S) (hρ : dR ρ 6) (N k : Nat) (hk : k ≤ N) (hB : txB N tx) (h9 : k < N → tx k ≠ 63 ∧ tx k ≠ 43) : Met l yX6_readsAct (Cond.code yX6_readsAct cX6_readsAct 1 (some .boolean) :: ALL) ({ frames := 3, cells := 0, slots := 0, locals := 67 }) (pR [.ref (ρ 0)] E (refW E ρ th rc ((N : Int)) ((k : Int)) kd nm st hi ke tx wy)) (qW (some (.int (I 0))) E (refW E ρ th rc ((N : Int)) ((k : Int)) kd nm st hi ke tx wy) (refW E ρ th rc ((N : Int)) ((k : Int)) (if k < N then tx k else -1) nm st hi ke tx wy)) 0 0 (adIn (refW E ρ th rc ((N : Int)) ((k : Int)) kd nm st hi ke tx wy)) := by
  refine mk_met (by decide) rfl (Nat.le_of_ble_eq_true rfl) ?_
  intro p e s m args below meth c hx hb hrt hml hts hown hlocks hnm hP hK ls hl
  have hown : s.vm.findClass RX6 = some m.cls := hown
  have hl : lv_has ls 1 [(0, .ref (ρ 0))] := hl
  have hD : va_D (adIn (refW E ρ th rc ((N : Int)) ((k : Int)) kd nm st hi ke tx wy)) (refW E ρ th rc ((N : Int)) ((k : Int)) kd nm st hi ke tx wy) := D_of_dR hρ rfl
  have hS : va_S (adIn (refW E ρ th rc ((N : Int)) ((k : Int)) kd nm st hi ke tx wy)) s.heap s.heap [] := va_S.rf
  have hB0 := hB.1
  have hBk := hB.2 k
  have hBk1 := hB.2 (k + 1)
  have CUT25 : ∀ (H : Heap) (locs : List Loc) (ls : Array Slot), va_P E.1 vwCl (refW E ρ th rc ((N : Int)) ((k : Int)) kd nm st hi ke tx wy) H → va_S (adIn (refW E ρ th rc ((N : Int)) ((k : Int)) kd nm st hi ke tx wy)) s.heap H locs → lv_has ls 1 [(0, .ref (ρ 0))] → W p l e ({ frames := 3, cells := 0, slots := 0, locals := 67 }) s m args below meth c H locs 0 0 (MQ below (qW (some (.int (I 0))) E (refW E ρ th rc ((N : Int)) ((k : Int)) kd nm st hi ke tx wy) (refW E ρ th rc ((N : Int)) ((k : Int)) (if k < N then tx k else -1) nm st hi ke tx wy)) args s 0 0 (adIn (refW E ρ th rc ((N : Int)) ((k : Int)) kd nm st hi ke tx wy))) (F0 m 25 ls [.int (I (if k < N then tx k else -1)), .ref (ρ 0)]) := by
    intro   H locs ls hP hS hl
    refine va_put (ci := 6) (ty := .int) hx hb hts inX6 tyX6 tyX6_ok nmX6 hown hK.1 hP (dm hD rfl) hS 0 rfl rfl 9 (by decide) (hts _ fl_X6_147) (fun _ h9 => h9) rfl (by decide +kernel) rfl rfl (Nat.le_of_ble_eq_true rfl) dX6_readsAct_25 (fun H locs hP _ hS => ?_)
    have hP : va_P E.1 vwCl (refW E ρ th rc ((N : Int)) ((k : Int)) (if k < N then tx k else -1) nm st hi ke tx wy) H := hP
    refine lv_aload_n hx hb dX6_readsAct_28 rfl (lv_lk hl rfl) ?_
    refine iv_bipush hx hb dX6_readsAct_29 (by decide +kernel) ?_
    refine iv_bipush hx hb dX6_readsAct_31 (by decide +kernel) ?_
    refine call_F (va_runV ⟨hx, hb, hml, hown, hts⟩ (m_X6_accepts_bad l E ρ th rc (if k < N then tx k else -1) nm st hi ke tx wy hρ N k (by omega) hB 43 43 (by omega) (by omega) (by omega)) (cwV 2 hts (gi_V ml_X6_140 im_X6_accepts sl_X6_accepts it_X6 cd_X6_accepts) rfl rfl rfl (by decide +kernel) ⟨Nat.le_of_ble_eq_true rfl, Nat.le_of_ble_eq_true rfl⟩) (pR_V (q0 := 0) (ci := 6) hP hK rfl rfl) rfl rfl hl.1 rfl (lv_room (Nat.le_of_ble_eq_true rfl)) dX6_readsAct_33 ⟨Nat.le_of_ble_eq_true rfl, Nat.le_of_ble_eq_true rfl⟩) (dm hD rfl) hS rfl (fun H locs hP hS => ?_)
    have hP : va_P E.1 vwCl (refW E ρ th rc ((N : Int)) ((k : Int)) (if k < N then tx k else -1) nm st hi ke tx wy) H := hP
    refine iv_if_eq (tgt := 47) hx hb dX6_readsAct_36 (by decide) (by omega) (fun c_36 => ?_) (fun c_36 => by exfalso; omega)
    refine lv_aload_n hx hb dX6_readsAct_47 rfl (lv_lk hl rfl) ?_
    refine iv_bipush hx hb dX6_readsAct_48 (by decide +kernel) ?_
    refine iv_bipush hx hb dX6_readsAct_50 (by decide +kernel) ?_
    refine call_F (va_runV ⟨hx, hb, hml, hown, hts⟩ (m_X6_accepts_bad l E ρ th rc (if k < N then tx k else -1) nm st hi ke tx wy hρ N k (by omega) hB 63 63 (by omega) (by omega) (by omega)) (cwV 2 hts (gi_V ml_X6_140 im_X6_accepts sl_X6_accepts it_X6 cd_X6_accepts) rfl rfl rfl (by decide +kernel) ⟨Nat.le_of_ble_eq_true rfl, Nat.le_of_ble_eq_true rfl⟩) (pR_V (q0 := 0) (ci := 6) hP hK rfl rfl) rfl rfl hl.1 rfl (lv_room (Nat.le_of_ble_eq_true rfl)) dX6_readsAct_52 ⟨Nat.le_of_ble_eq_true rfl, Nat.le_of_ble_eq_true rfl⟩) (dm hD rfl) hS rfl (fun H locs hP hS => ?_)
    have hP : va_P E.1 vwCl (refW E ρ th rc ((N : Int)) ((k : Int)) (if k < N then tx k else -1) nm st hi ke tx wy) H := hP
    refine iv_if_eq (tgt := 72) hx hb dX6_readsAct_55 (by decide) (by omega) (fun c_55 => ?_) (fun c_55 => by exfalso; omega)
    refine iv_iconst hx hb dX6_readsAct_72 ?_
    exact W.zret (ty := .boolean) hx hb hrt (by rfl) (fun t ht hW => ⟨rfl, by rw [ht]; exact hP, hS.F ht⟩) hS.2.2 dX6_readsAct_73 hlocks
  refine lv_aload_n hx hb dX6_readsAct_0 rfl (lv_lk hl rfl) ?_
  refine lv_aload_n hx hb dX6_readsAct_1 rfl (lv_lk hl rfl) ?_
  refine va_get (D := E.1) (ci := 6) hx hb hts inX6 hown hK.1 hP 0 rfl rfl 8 (by decide) (hts _ fl_X6_137) (fun _ h9 => h9) rfl dX6_readsAct_2 ?_
  refine lv_aload_n hx hb dX6_readsAct_5 rfl (lv_lk hl rfl) ?_
  refine va_get (D := E.1) (ci := 6) hx hb hts inX6 hown hK.1 hP 0 rfl rfl 6 (by decide) (hts _ fl_X6_134) (fun _ h9 => h9) rfl dX6_readsAct_6 ?_
  refine iv_icmp_ge (tgt := 24) hx hb dX6_readsAct_9 (by decide) (by omega) (by omega) (fun c_9 => ?_) (fun c_9 => ?_)
  · refine iv_iconst hx hb dX6_readsAct_24 ?_
    refine iv_eq (if k < N then tx k else -1) (by rw [if_neg (by omega)]) ?_
    exact CUT25  _ _ _ hP hS (lv_sub hl [0] rfl)
  · refine lv_aload_n hx hb dX6_readsAct_12 rfl (lv_lk hl rfl) ?_
    refine va_get (D := E.1) (ci := 6) hx hb hts inX6 hown hK.1 hP 0 rfl rfl 5 (by decide) (hts _ fl_X6_19) (fun _ h9 => h9) rfl dX6_readsAct_13 ?_
    refine lv_aload_n hx hb dX6_readsAct_16 rfl (lv_lk hl rfl) ?_
    refine va_get (D := E.1) (ci := 6) hx hb hts inX6 hown hK.1 hP 0 rfl rfl 8 (by decide) (hts _ fl_X6_137) (fun _ h9 => h9) rfl dX6_readsAct_17 ?_
    refine iv_iald hx hb hK hP 4 rfl (k) (by omega) (by omega) dX6_readsAct_20 ?_
    refine lv_goto (tgt := 25) hx hb dX6_readsAct_21 (by decide) ?_
    refine iv_eq (if k < N then tx k else -1) (by rw [if_pos (by omega)]) ?_
    exact CUT25  _ _ _ hP hS (lv_sub hl [0] rfl)
