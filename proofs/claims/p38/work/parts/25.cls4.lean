/-! the class: State, second part: forecasts; written by cls.py -/
def earl (a b : Int) : Int := if a = 0 then b else if b = 0 then a else if b < a then b else a
def nxt (st : S) : Int := foldN (fun a r => earl a (st (36 + 6 * r + 5))) 36 (foldN (fun a z => earl a (st (6 + 5 * z + 3))) 6 0)
theorem earl_rng {a b : Int} (ha : 0 ≤ a ∧ a ≤ 1000000) (hb : 0 ≤ b ∧ b ≤ 1000000) : 0 ≤ earl a b ∧ earl a b ≤ 1000000 := by unfold earl; (repeat split) <;> omega
theorem nxt_rngZ {T : Int} {st : S} (h : IB T st) : ∀ i, i ≤ 6 → 0 ≤ foldN (fun a z => earl a (st (6 + 5 * z + 3))) i 0 ∧ foldN (fun a z => earl a (st (6 + 5 * z + 3))) i 0 ≤ 1000000
  | 0, _ => by show 0 ≤ (0 : Int) ∧ (0 : Int) ≤ 1000000; omega
  | i + 1, hi => by
    have z9 := (h.2.2.1 i (by omega)).2.2.2.2.2
    have z8 := h.1
    exact earl_rng (nxt_rngZ h i (by omega)) (by omega)
theorem nxt_rngR {T : Int} {st : S} (h : IB T st) : ∀ i, i ≤ 36 → 0 ≤ foldN (fun a r => earl a (st (36 + 6 * r + 5))) i (foldN (fun a z => earl a (st (6 + 5 * z + 3))) 6 0) ∧ foldN (fun a r => earl a (st (36 + 6 * r + 5))) i (foldN (fun a z => earl a (st (6 + 5 * z + 3))) 6 0) ≤ 1000000
  | 0, _ => nxt_rngZ h 6 (Nat.le_refl _)
  | i + 1, hi => by
    have z9 := (h.2.2.2 i (by omega)).2
    unfold triM at z9
    have z8 := h.1
    exact earl_rng (nxt_rngR h i (by omega)) (by omega)
/-- the earliest end, and what is left until it -/
theorem left_earl {st : S} {a b : Int} (h0 : 0 ≤ st 0) (ha : a = 0 ∨ st 0 < a) (hb : b = 0 ∨ st 0 < b) : left st (earl a b) = sooner (left st a) (left st b) ∧ (earl a b = 0 ∨ st 0 < earl a b) := by
  unfold left earl sooner
  constructor
  · (repeat split) <;> omega
  · (repeat split) <;> omega
theorem left_nxt {T : Int} {st : S} (h : IB T st) (hi : IT st) : left st (nxt st) = untl st := by
  have h0 := h.1.1
  have z : ∀ i, i ≤ 6 → left st (foldN (fun a z => earl a (st (6 + 5 * z + 3))) i 0) = foldN (fun a z => sooner a (left st (st (6 + 5 * z + 3)))) i (-1) ∧ (foldN (fun a z => earl a (st (6 + 5 * z + 3))) i 0 = 0 ∨ st 0 < foldN (fun a z => earl a (st (6 + 5 * z + 3))) i 0) := by
    intro i
    induction i with
    | zero => exact fun _ => ⟨rfl, Or.inl rfl⟩
    | succ i ih =>
      intro hi6
      obtain ⟨e1, e2⟩ := ih (by omega)
      have := left_earl h0 e2 (b := st (6 + 5 * i + 3)) (by have := hi.1 i (by omega); omega)
      refine ⟨?_, this.2⟩
      show left st (earl _ _) = sooner _ _
      rw [this.1, e1]
  have r : ∀ i, i ≤ 36 → left st (foldN (fun a r => earl a (st (36 + 6 * r + 5))) i (foldN (fun a z => earl a (st (6 + 5 * z + 3))) 6 0)) = foldN (fun a r => sooner a (left st (st (36 + 6 * r + 5)))) i (foldN (fun a z => sooner a (left st (st (6 + 5 * z + 3)))) 6 (-1)) ∧ (foldN (fun a r => earl a (st (36 + 6 * r + 5))) i (foldN (fun a z => earl a (st (6 + 5 * z + 3))) 6 0) = 0 ∨ st 0 < foldN (fun a r => earl a (st (36 + 6 * r + 5))) i (foldN (fun a z => earl a (st (6 + 5 * z + 3))) 6 0)) := by
    intro i
    induction i with
    | zero => exact fun _ => z 6 (Nat.le_refl _)
    | succ i ih =>
      intro hi6
      obtain ⟨e1, e2⟩ := ih (by omega)
      have hm := (h.2.2.2 i (by omega)).2
      unfold triM at hm
      have := left_earl h0 e2 (b := st (36 + 6 * i + 5)) (by have := hi.2 i (by omega); omega)
      refine ⟨?_, this.2⟩
      show left st (earl _ _) = sooner _ _
      rw [this.1, e1]
  exact (r 36 (Nat.le_refl _)).1
set_option maxHeartbeats 4000000 in
set_option maxRecDepth 100000 in
theorem m_X3_countMemory (l : Launch) (E : Env3) (α : Nat → Nat) (st : S) (T : Int) (hI : IB T st) : Met l yX3_countMemory (Cond.code yX3_countMemory cX3_countMemory 3 (some .int) :: ALL) ({ frames := 2, cells := 0, slots := 0, locals := 42 }) (pR [.ref (α 0)] E (stW E α st)) (qS (some (.int (I (memo st))))) 0 0 (fun _ => False) := by
  refine mk_met (by decide) rfl (Nat.le_of_ble_eq_true rfl) ?_
  intro p e s m args below meth c hx hb hrt hml hts hown hlocks hnm hP hK ls hl
  have hown : s.vm.findClass RX3 = some m.cls := hown
  have hl : lv_has ls 3 [(0, .ref (α 0))] := hl
  have hS : va_S (fun _ => False) s.heap s.heap [] := va_S.rf
  refine iv_iconst hx hb dX3_countMemory_0 ?_
  refine lv_istore_n (lv' := [(1, .int (I _)), (0, .ref _)]) hx hb dX3_countMemory_1 rfl hl (by decide) rfl (fun ls hl => ?_)
  refine iv_iconst hx hb dX3_countMemory_2 ?_
  refine lv_istore_n (lv' := [(2, .int (I _)), (1, .int (I _)), (0, .ref _)]) hx hb dX3_countMemory_3 rfl hl (by decide) rfl (fun ls hl => ?_)
  have LOOP4 : ∀ (n9 i : Nat), (i + n9 = 6) → ∀ (locs : List Loc) (ls : Array Slot), va_S (fun _ => False) s.heap s.heap locs → lv_has ls 3 [(0, .ref (α 0)), (1, .int (I (sumN (fun z => if 0 < st (6 + 5 * z + 3) then 1 else 0) i))), (2, .int (I (i : Int)))] → W p l e ({ frames := 2, cells := 0, slots := 0, locals := 42 }) s m args below meth c s.heap locs 0 0 (MQ below (qS (some (.int (I (memo st))))) args s 0 0 (fun _ => False)) (F0 m 4 ls []) := by
    intro n9
    induction n9 with
    | zero =>
      intro  i hi9 locs ls hS hl
      obtain rfl : i = 6 := by omega
      refine lv_iload_n hx hb dX3_countMemory_4 rfl (lv_lk hl rfl) ?_
      refine iv_bipush hx hb dX3_countMemory_5 (by decide +kernel) ?_
      refine iv_icmp_ge (tgt := 35) hx hb dX3_countMemory_7 (by decide) (by omega) (by omega) (fun c_7 => ?_) (fun c_7 => by exfalso; omega)
      have e0 : sumN (fun z => if 0 < st (6 + 5 * z + 3) then 1 else 0) 6 = sumN (fun z => if 0 < st (6 + 5 * z + 3) then 1 else 0) 6 + sumN (fun r => if 0 < st (36 + 6 * r + 5) then 1 else 0) 0 := (Int.add_zero _).symm
      rw [e0] at hl
      refine iv_iconst hx hb dX3_countMemory_35 ?_
      refine lv_istore_n (lv' := [(2, .int (I _)), (0, .ref _), (1, .int (I _))]) hx hb dX3_countMemory_36 rfl hl (by decide) rfl (fun ls hl => ?_)
      have LOOP37 : ∀ (n9 i : Nat), (i + n9 = 36) → ∀ (locs : List Loc) (ls : Array Slot), va_S (fun _ => False) s.heap s.heap locs → lv_has ls 3 [(0, .ref (α 0)), (1, .int (I (sumN (fun z => if 0 < st (6 + 5 * z + 3) then 1 else 0) 6 + sumN (fun r => if 0 < st (36 + 6 * r + 5) then 1 else 0) i))), (2, .int (I (i : Int)))] → W p l e ({ frames := 2, cells := 0, slots := 0, locals := 42 }) s m args below meth c s.heap locs 0 0 (MQ below (qS (some (.int (I (memo st))))) args s 0 0 (fun _ => False)) (F0 m 37 ls []) := by
        intro n9
        induction n9 with
        | zero =>
          intro  i hi9 locs ls hS hl
          obtain rfl : i = 36 := by omega
          refine lv_iload_n hx hb dX3_countMemory_37 rfl (lv_lk hl rfl) ?_
          refine iv_bipush hx hb dX3_countMemory_38 (by decide +kernel) ?_
          refine iv_icmp_ge (tgt := 68) hx hb dX3_countMemory_40 (by decide) (by omega) (by omega) (fun c_40 => ?_) (fun c_40 => by exfalso; omega)
          refine lv_iload_n hx hb dX3_countMemory_68 rfl (lv_lk hl rfl) ?_
          exact W.iret hx hb hrt (fun t ht hW => ⟨rfl, ht⟩) hS.2.2 dX3_countMemory_69 hlocks
        | succ n9 ih =>
          intro  i hi9 locs ls hS hl
          have z9 := (hI.2.2.2 i (by omega)).2
          unfold triM at z9
          have z8 := hI.1
          refine lv_iload_n hx hb dX3_countMemory_37 rfl (lv_lk hl rfl) ?_
          refine iv_bipush hx hb dX3_countMemory_38 (by decide +kernel) ?_
          refine iv_icmp_ge (tgt := 68) hx hb dX3_countMemory_40 (by decide) (by omega) (by omega) (fun c_40 => by exfalso; omega) (fun c_40 => ?_)
          refine lv_iload_n hx hb dX3_countMemory_43 rfl (lv_lk hl rfl) ?_
          refine lv_aload_n hx hb dX3_countMemory_44 rfl (lv_lk hl rfl) ?_
          refine va_get (D := E.1) (ci := 3) hx hb hts inX3 hown hK.1 hP 0 rfl rfl 3 (by decide) (hts _ fl_X3_25) (fun _ h9 => h9) rfl dX3_countMemory_45 ?_
          refine lv_iload_n hx hb dX3_countMemory_48 rfl (lv_lk hl rfl) ?_
          refine call_S (va_runV ⟨hx, hb, hml, hown, hts⟩ (m_X2_kind l E (α 9) (α 10) (α 11) (α 12) (mK st) (mV st) (mE st) i (by omega)) (cwV 1 hts (gi_V ml_X3_64 im_X2_kind sl_X2_kind it_X2 cd_X2_kind) rfl rfl rfl (by decide +kernel) ⟨Nat.le_of_ble_eq_true rfl, Nat.le_of_ble_eq_true rfl⟩) (pR_V (q0 := 0) (ci := 2) (hP.sub (ws' := (repW E (α 9) (α 10) (α 11) (α 12) (mK st) (mV st) (mE st))) [9, 10, 11, 12] rfl) hK rfl rfl) rfl rfl hl.1 rfl (lv_room (Nat.le_of_ble_eq_true rfl)) dX3_countMemory_49 ⟨Nat.le_of_ble_eq_true rfl, Nat.le_of_ble_eq_true rfl⟩) (fun _ h => h) hS rfl (fun locs hS => ?_)
          refine iv_eq (st (36 + 6 * i + 3)) (rfl) ?_
          refine iv_if_eq (tgt := 59) hx hb dX3_countMemory_52 (by decide) (by omega) (fun c_52 => ?_) (fun c_52 => ?_)
          · refine iv_iconst hx hb dX3_countMemory_59 ?_
            refine iv_iadd hx hb dX3_countMemory_60 ?_
            refine iv_eq (sumN (fun z => if 0 < st (6 + 5 * z + 3) then 1 else 0) 6 + sumN (fun r => if 0 < st (36 + 6 * r + 5) then 1 else 0) (i + 1)) (by show _ = sumN (fun z => if 0 < st (6 + 5 * z + 3) then 1 else 0) 6 + (sumN (fun r => if 0 < st (36 + 6 * r + 5) then 1 else 0) i + (if 0 < st (36 + 6 * i + 5) then 1 else 0)); rw [if_neg (by omega)]; omega) ?_
            refine lv_istore_n (lv' := [(1, .int (I _)), (0, .ref _), (2, .int (I _))]) hx hb dX3_countMemory_61 rfl hl (by decide) rfl (fun ls hl => ?_)
            refine iv_iinc (k := 2) hx hb dX3_countMemory_62 hl rfl (((i + 1 : Nat) : Int)) (by omega) (by decide) [(2, .int (I _)), (1, .int (I _)), (0, .ref _)] rfl (fun ls hl => ?_)
            refine lv_goto (tgt := 37) hx hb dX3_countMemory_65 (by decide) ?_
            exact ih (i + 1) (by omega) locs ls hS (lv_sub hl [2, 1, 0] rfl)
          · refine iv_iconst hx hb dX3_countMemory_55 ?_
            refine lv_goto (tgt := 60) hx hb dX3_countMemory_56 (by decide) ?_
            refine iv_iadd hx hb dX3_countMemory_60 ?_
            refine iv_eq (sumN (fun z => if 0 < st (6 + 5 * z + 3) then 1 else 0) 6 + sumN (fun r => if 0 < st (36 + 6 * r + 5) then 1 else 0) (i + 1)) (by show _ = sumN (fun z => if 0 < st (6 + 5 * z + 3) then 1 else 0) 6 + (sumN (fun r => if 0 < st (36 + 6 * r + 5) then 1 else 0) i + (if 0 < st (36 + 6 * i + 5) then 1 else 0)); rw [if_pos (by omega)]; omega) ?_
            refine lv_istore_n (lv' := [(1, .int (I _)), (0, .ref _), (2, .int (I _))]) hx hb dX3_countMemory_61 rfl hl (by decide) rfl (fun ls hl => ?_)
            refine iv_iinc (k := 2) hx hb dX3_countMemory_62 hl rfl (((i + 1 : Nat) : Int)) (by omega) (by decide) [(2, .int (I _)), (1, .int (I _)), (0, .ref _)] rfl (fun ls hl => ?_)
            refine lv_goto (tgt := 37) hx hb dX3_countMemory_65 (by decide) ?_
            exact ih (i + 1) (by omega) locs ls hS (lv_sub hl [2, 1, 0] rfl)
      exact LOOP37 36 0 (by omega) _ _ hS (lv_sub hl [1, 2, 0] rfl)
    | succ n9 ih =>
      intro  i hi9 locs ls hS hl
      have z9 := (hI.2.2.1 i (by omega)).2.2.2.2.2
      have z8 := hI.1
      refine lv_iload_n hx hb dX3_countMemory_4 rfl (lv_lk hl rfl) ?_
      refine iv_bipush hx hb dX3_countMemory_5 (by decide +kernel) ?_
      refine iv_icmp_ge (tgt := 35) hx hb dX3_countMemory_7 (by decide) (by omega) (by omega) (fun c_7 => by exfalso; omega) (fun c_7 => ?_)
      refine lv_iload_n hx hb dX3_countMemory_10 rfl (lv_lk hl rfl) ?_
      refine lv_aload_n hx hb dX3_countMemory_11 rfl (lv_lk hl rfl) ?_
      refine va_get (D := E.1) (ci := 3) hx hb hts inX3 hown hK.1 hP 0 rfl rfl 4 (by decide) (hts _ fl_X3_28) (fun _ h9 => h9) rfl dX3_countMemory_12 ?_
      refine lv_iload_n hx hb dX3_countMemory_15 rfl (lv_lk hl rfl) ?_
      refine call_S (va_runSN ⟨hx, hb, hml, hown, hts⟩ (m_X5_read l E (α 13) 6 i (cE st) (by omega) (by omega)) ⟨va_cnB 2 hts (gi_all cd_X5_read) rfl rfl rfl (nwK hK 3 rfl) (hts _ it_X5) (by decide +kernel) ⟨Nat.le_of_ble_eq_true rfl, Nat.le_of_ble_eq_true rfl⟩, hts _ st_X5_read, trivial⟩ (pR_S (hP.sub (ws' := [(α 13, iA E 6 (cE st))]) [13] rfl) hK) rfl rfl hl.1 rfl (lv_room (Nat.le_of_ble_eq_true rfl)) dX3_countMemory_16 ⟨Nat.le_of_ble_eq_true rfl, Nat.le_of_ble_eq_true rfl⟩) (fun _ h => h) hS rfl (fun locs hS => ?_)
      refine iv_eq (st (6 + 5 * i + 3)) (rfl) ?_
      refine iv_if_eq (tgt := 26) hx hb dX3_countMemory_19 (by decide) (by omega) (fun c_19 => ?_) (fun c_19 => ?_)
      · refine iv_iconst hx hb dX3_countMemory_26 ?_
        refine iv_iadd hx hb dX3_countMemory_27 ?_
        refine iv_eq (sumN (fun z => if 0 < st (6 + 5 * z + 3) then 1 else 0) (i + 1)) (by show _ = sumN (fun z => if 0 < st (6 + 5 * z + 3) then 1 else 0) i + (if 0 < st (6 + 5 * i + 3) then 1 else 0); rw [if_neg (by omega)]) ?_
        refine lv_istore_n (lv' := [(1, .int (I _)), (0, .ref _), (2, .int (I _))]) hx hb dX3_countMemory_28 rfl hl (by decide) rfl (fun ls hl => ?_)
        refine iv_iinc (k := 2) hx hb dX3_countMemory_29 hl rfl (((i + 1 : Nat) : Int)) (by omega) (by decide) [(2, .int (I _)), (1, .int (I _)), (0, .ref _)] rfl (fun ls hl => ?_)
        refine lv_goto (tgt := 4) hx hb dX3_countMemory_32 (by decide) ?_
        exact ih (i + 1) (by omega) locs ls hS (lv_sub hl [2, 1, 0] rfl)
      · refine iv_iconst hx hb dX3_countMemory_22 ?_
        refine lv_goto (tgt := 27) hx hb dX3_countMemory_23 (by decide) ?_
        refine iv_iadd hx hb dX3_countMemory_27 ?_
        refine iv_eq (sumN (fun z => if 0 < st (6 + 5 * z + 3) then 1 else 0) (i + 1)) (by show _ = sumN (fun z => if 0 < st (6 + 5 * z + 3) then 1 else 0) i + (if 0 < st (6 + 5 * i + 3) then 1 else 0); rw [if_pos (by omega)]) ?_
        refine lv_istore_n (lv' := [(1, .int (I _)), (0, .ref _), (2, .int (I _))]) hx hb dX3_countMemory_28 rfl hl (by decide) rfl (fun ls hl => ?_)
        refine iv_iinc (k := 2) hx hb dX3_countMemory_29 hl rfl (((i + 1 : Nat) : Int)) (by omega) (by decide) [(2, .int (I _)), (1, .int (I _)), (0, .ref _)] rfl (fun ls hl => ?_)
        refine lv_goto (tgt := 4) hx hb dX3_countMemory_32 (by decide) ?_
        exact ih (i + 1) (by omega) locs ls hS (lv_sub hl [2, 1, 0] rfl)
  exact LOOP4 6 0 (by omega) _ _ hS (lv_sub hl [2, 1, 0] rfl)
set_option maxHeartbeats 4000000 in
set_option maxRecDepth 100000 in
theorem m_X3_earlierEnd (l : Launch) (E : Env3) (a b : Int) (ha : -2147483648 ≤ a ∧ a ≤ 2147483647) (hb9 : -2147483648 ≤ b ∧ b ≤ 2147483647) : Met l yX3_earlierEnd (Cond.code yX3_earlierEnd cX3_earlierEnd 2 (some .int) :: ALL) ({ frames := 1, cells := 0, slots := 0, locals := 21 }) (pR [.int (I a), .int (I b)] E []) (qS (some (.int (I (earl a b))))) 0 0 (fun _ => False) := by
  refine mk_met (by decide) rfl (Nat.le_of_ble_eq_true rfl) ?_
  intro p e s m args below meth c hx hb hrt hml hts hown hlocks hnm hP hK ls hl
  have hown : s.vm.findClass RX3 = some m.cls := hown
  have hl : lv_has ls 2 [(0, .int (I a)), (1, .int (I b))] := hl
  have hS : va_S (fun _ => False) s.heap s.heap [] := va_S.rf
  refine lv_iload_n hx hb dX3_earlierEnd_0 rfl (lv_lk hl rfl) ?_
  refine iv_if_ne (tgt := 6) hx hb dX3_earlierEnd_1 (by decide) (by omega) (fun c_1 => ?_) (fun c_1 => ?_)
  · refine lv_iload_n hx hb dX3_earlierEnd_6 rfl (lv_lk hl rfl) ?_
    refine iv_if_ne (tgt := 14) hx hb dX3_earlierEnd_7 (by decide) (by omega) (fun c_7 => ?_) (fun c_7 => ?_)
    · refine lv_iload_n hx hb dX3_earlierEnd_14 rfl (lv_lk hl rfl) ?_
      refine lv_iload_n hx hb dX3_earlierEnd_15 rfl (lv_lk hl rfl) ?_
      refine va_mmin hx hb (hml.trans hl.1.symm) hown (hts _ mlm_X3) (hts _ st_min) (hts _ it_J9) (hts _ cd_min) (Nat.le_of_ble_eq_true rfl) (Nat.le_of_ble_eq_true rfl) (Nat.zero_le _) (Nat.zero_le _) dX3_earlierEnd_16 ?_
      rw [show (if I b < I a then I b else I a) = I (earl a b) by rw [earl, if_neg c_1, if_neg c_7]; by_cases hh : b < a; (· rw [if_pos ((I_lt hb9 ha).mpr hh), if_pos hh]); (· rw [if_neg (fun q => hh ((I_lt hb9 ha).mp q)), if_neg hh])]
      exact W.iret hx hb hrt (fun t ht hW => ⟨rfl, ht⟩) hS.2.2 dX3_earlierEnd_19 hlocks
    · refine lv_iload_n hx hb dX3_earlierEnd_10 rfl (lv_lk hl rfl) ?_
      refine lv_goto (tgt := 19) hx hb dX3_earlierEnd_11 (by decide) ?_
      refine iv_eq (earl a b) (by rw [earl, if_neg c_1, if_pos c_7]) ?_
      exact W.iret hx hb hrt (fun t ht hW => ⟨rfl, ht⟩) hS.2.2 dX3_earlierEnd_19 hlocks
  · refine lv_iload_n hx hb dX3_earlierEnd_4 rfl (lv_lk hl rfl) ?_
    refine iv_eq (earl a b) (by rw [earl, if_pos c_1]) ?_
    exact W.iret hx hb hrt (fun t ht hW => ⟨rfl, ht⟩) hS.2.2 dX3_earlierEnd_5 hlocks
set_option maxHeartbeats 4000000 in
set_option maxRecDepth 100000 in
theorem m_X3_nextEnd (l : Launch) (E : Env3) (α : Nat → Nat) (st : S) (T : Int) (hI : IB T st) : Met l yX3_nextEnd (Cond.code yX3_nextEnd cX3_nextEnd 3 (some .int) :: ALL) ({ frames := 2, cells := 0, slots := 0, locals := 42 }) (pR [.ref (α 0)] E (stW E α st)) (qS (some (.int (I (nxt st))))) 0 0 (fun _ => False) := by
  refine mk_met (by decide) rfl (Nat.le_of_ble_eq_true rfl) ?_
  intro p e s m args below meth c hx hb hrt hml hts hown hlocks hnm hP hK ls hl
  have hown : s.vm.findClass RX3 = some m.cls := hown
  have hl : lv_has ls 3 [(0, .ref (α 0))] := hl
  have hS : va_S (fun _ => False) s.heap s.heap [] := va_S.rf
  refine iv_iconst hx hb dX3_nextEnd_0 ?_
  refine lv_istore_n (lv' := [(1, .int (I _)), (0, .ref _)]) hx hb dX3_nextEnd_1 rfl hl (by decide) rfl (fun ls hl => ?_)
  refine iv_iconst hx hb dX3_nextEnd_2 ?_
  refine lv_istore_n (lv' := [(2, .int (I _)), (1, .int (I _)), (0, .ref _)]) hx hb dX3_nextEnd_3 rfl hl (by decide) rfl (fun ls hl => ?_)
  have LOOP4 : ∀ (n9 i : Nat), (i + n9 = 6) → ∀ (locs : List Loc) (ls : Array Slot), va_S (fun _ => False) s.heap s.heap locs → lv_has ls 3 [(0, .ref (α 0)), (1, .int (I (foldN (fun a z => earl a (st (6 + 5 * z + 3))) i 0))), (2, .int (I (i : Int)))] → W p l e ({ frames := 2, cells := 0, slots := 0, locals := 42 }) s m args below meth c s.heap locs 0 0 (MQ below (qS (some (.int (I (nxt st))))) args s 0 0 (fun _ => False)) (F0 m 4 ls []) := by
    intro n9
    induction n9 with
    | zero =>
      intro  i hi9 locs ls hS hl
      obtain rfl : i = 6 := by omega
      refine lv_iload_n hx hb dX3_nextEnd_4 rfl (lv_lk hl rfl) ?_
      refine iv_bipush hx hb dX3_nextEnd_5 (by decide +kernel) ?_
      refine iv_icmp_ge (tgt := 29) hx hb dX3_nextEnd_7 (by decide) (by omega) (by omega) (fun c_7 => ?_) (fun c_7 => by exfalso; omega)
      refine iv_iconst hx hb dX3_nextEnd_29 ?_
      refine lv_istore_n (lv' := [(2, .int (I _)), (0, .ref _), (1, .int (I _))]) hx hb dX3_nextEnd_30 rfl hl (by decide) rfl (fun ls hl => ?_)
      have LOOP31 : ∀ (n9 i : Nat), (i + n9 = 36) → ∀ (locs : List Loc) (ls : Array Slot), va_S (fun _ => False) s.heap s.heap locs → lv_has ls 3 [(0, .ref (α 0)), (1, .int (I (foldN (fun a r => earl a (st (36 + 6 * r + 5))) i (foldN (fun a z => earl a (st (6 + 5 * z + 3))) 6 0)))), (2, .int (I (i : Int)))] → W p l e ({ frames := 2, cells := 0, slots := 0, locals := 42 }) s m args below meth c s.heap locs 0 0 (MQ below (qS (some (.int (I (nxt st))))) args s 0 0 (fun _ => False)) (F0 m 31 ls []) := by
        intro n9
        induction n9 with
        | zero =>
          intro  i hi9 locs ls hS hl
          obtain rfl : i = 36 := by omega
          refine lv_iload_n hx hb dX3_nextEnd_31 rfl (lv_lk hl rfl) ?_
          refine iv_bipush hx hb dX3_nextEnd_32 (by decide +kernel) ?_
          refine iv_icmp_ge (tgt := 56) hx hb dX3_nextEnd_34 (by decide) (by omega) (by omega) (fun c_34 => ?_) (fun c_34 => by exfalso; omega)
          refine lv_iload_n hx hb dX3_nextEnd_56 rfl (lv_lk hl rfl) ?_
          exact W.iret hx hb hrt (fun t ht hW => ⟨rfl, ht⟩) hS.2.2 dX3_nextEnd_57 hlocks
        | succ n9 ih =>
          intro  i hi9 locs ls hS hl
          have z9 := (hI.2.2.2 i (by omega)).2
          unfold triM at z9
          have z8 := hI.1
          have z7 := nxt_rngR hI i (by omega)
          refine lv_iload_n hx hb dX3_nextEnd_31 rfl (lv_lk hl rfl) ?_
          refine iv_bipush hx hb dX3_nextEnd_32 (by decide +kernel) ?_
          refine iv_icmp_ge (tgt := 56) hx hb dX3_nextEnd_34 (by decide) (by omega) (by omega) (fun c_34 => by exfalso; omega) (fun c_34 => ?_)
          refine lv_iload_n hx hb dX3_nextEnd_37 rfl (lv_lk hl rfl) ?_
          refine lv_aload_n hx hb dX3_nextEnd_38 rfl (lv_lk hl rfl) ?_
          refine va_get (D := E.1) (ci := 3) hx hb hts inX3 hown hK.1 hP 0 rfl rfl 3 (by decide) (hts _ fl_X3_25) (fun _ h9 => h9) rfl dX3_nextEnd_39 ?_
          refine lv_iload_n hx hb dX3_nextEnd_42 rfl (lv_lk hl rfl) ?_
          refine call_S (va_runV ⟨hx, hb, hml, hown, hts⟩ (m_X2_ticks l E (α 9) (α 10) (α 11) (α 12) (mK st) (mV st) (mE st) i (by omega)) (cwV 1 hts (gi_V ml_X3_112 im_X2_ticks sl_X2_ticks it_X2 cd_X2_ticks) rfl rfl rfl (by decide +kernel) ⟨Nat.le_of_ble_eq_true rfl, Nat.le_of_ble_eq_true rfl⟩) (pR_V (q0 := 0) (ci := 2) (hP.sub (ws' := (repW E (α 9) (α 10) (α 11) (α 12) (mK st) (mV st) (mE st))) [9, 10, 11, 12] rfl) hK rfl rfl) rfl rfl hl.1 rfl (lv_room (Nat.le_of_ble_eq_true rfl)) dX3_nextEnd_43 ⟨Nat.le_of_ble_eq_true rfl, Nat.le_of_ble_eq_true rfl⟩) (fun _ h => h) hS rfl (fun locs hS => ?_)
          refine iv_eq (st (36 + 6 * i + 5)) (rfl) ?_
          refine call_S (va_runS ⟨hx, hb, hml, hown, hts⟩ (m_X3_earlierEnd l E _ _ (by omega) (by omega)) (va_cwS 2 hts (gi_S ml_X3_132 st_X3_earlierEnd it_X3 cd_X3_earlierEnd) rfl rfl rfl (by decide +kernel) ⟨Nat.le_of_ble_eq_true rfl, Nat.le_of_ble_eq_true rfl⟩) (pR_S (hP.sub (ws' := []) [] rfl) hK) rfl rfl hl.1 rfl (lv_room (Nat.le_of_ble_eq_true rfl)) dX3_nextEnd_46 ⟨Nat.le_of_ble_eq_true rfl, Nat.le_of_ble_eq_true rfl⟩) (fun _ h => h) hS rfl (fun locs hS => ?_)
          refine lv_istore_n (lv' := [(1, .int (I _)), (0, .ref _), (2, .int (I _))]) hx hb dX3_nextEnd_49 rfl hl (by decide) rfl (fun ls hl => ?_)
          refine iv_iinc (k := 2) hx hb dX3_nextEnd_50 hl rfl (((i + 1 : Nat) : Int)) (by omega) (by decide) [(2, .int (I _)), (1, .int (I _)), (0, .ref _)] rfl (fun ls hl => ?_)
          refine lv_goto (tgt := 31) hx hb dX3_nextEnd_53 (by decide) ?_
          exact ih (i + 1) (by omega) locs ls hS (lv_sub hl [2, 1, 0] rfl)
      exact LOOP31 36 0 (by omega) _ _ hS (lv_sub hl [1, 2, 0] rfl)
    | succ n9 ih =>
      intro  i hi9 locs ls hS hl
      have z9 := (hI.2.2.1 i (by omega)).2.2.2.2.2
      have z8 := hI.1
      have z7 := nxt_rngZ hI i (by omega)
      refine lv_iload_n hx hb dX3_nextEnd_4 rfl (lv_lk hl rfl) ?_
      refine iv_bipush hx hb dX3_nextEnd_5 (by decide +kernel) ?_
      refine iv_icmp_ge (tgt := 29) hx hb dX3_nextEnd_7 (by decide) (by omega) (by omega) (fun c_7 => by exfalso; omega) (fun c_7 => ?_)
      refine lv_iload_n hx hb dX3_nextEnd_10 rfl (lv_lk hl rfl) ?_
      refine lv_aload_n hx hb dX3_nextEnd_11 rfl (lv_lk hl rfl) ?_
      refine va_get (D := E.1) (ci := 3) hx hb hts inX3 hown hK.1 hP 0 rfl rfl 4 (by decide) (hts _ fl_X3_28) (fun _ h9 => h9) rfl dX3_nextEnd_12 ?_
      refine lv_iload_n hx hb dX3_nextEnd_15 rfl (lv_lk hl rfl) ?_
      refine call_S (va_runSN ⟨hx, hb, hml, hown, hts⟩ (m_X5_read l E (α 13) 6 i (cE st) (by omega) (by omega)) ⟨va_cnB 2 hts (gi_all cd_X5_read) rfl rfl rfl (nwK hK 3 rfl) (hts _ it_X5) (by decide +kernel) ⟨Nat.le_of_ble_eq_true rfl, Nat.le_of_ble_eq_true rfl⟩, hts _ st_X5_read, trivial⟩ (pR_S (hP.sub (ws' := [(α 13, iA E 6 (cE st))]) [13] rfl) hK) rfl rfl hl.1 rfl (lv_room (Nat.le_of_ble_eq_true rfl)) dX3_nextEnd_16 ⟨Nat.le_of_ble_eq_true rfl, Nat.le_of_ble_eq_true rfl⟩) (fun _ h => h) hS rfl (fun locs hS => ?_)
      refine iv_eq (st (6 + 5 * i + 3)) (rfl) ?_
      refine call_S (va_runS ⟨hx, hb, hml, hown, hts⟩ (m_X3_earlierEnd l E _ _ (by omega) (by omega)) (va_cwS 2 hts (gi_S ml_X3_132 st_X3_earlierEnd it_X3 cd_X3_earlierEnd) rfl rfl rfl (by decide +kernel) ⟨Nat.le_of_ble_eq_true rfl, Nat.le_of_ble_eq_true rfl⟩) (pR_S (hP.sub (ws' := []) [] rfl) hK) rfl rfl hl.1 rfl (lv_room (Nat.le_of_ble_eq_true rfl)) dX3_nextEnd_19 ⟨Nat.le_of_ble_eq_true rfl, Nat.le_of_ble_eq_true rfl⟩) (fun _ h => h) hS rfl (fun locs hS => ?_)
      refine lv_istore_n (lv' := [(1, .int (I _)), (0, .ref _), (2, .int (I _))]) hx hb dX3_nextEnd_22 rfl hl (by decide) rfl (fun ls hl => ?_)
      refine iv_iinc (k := 2) hx hb dX3_nextEnd_23 hl rfl (((i + 1 : Nat) : Int)) (by omega) (by decide) [(2, .int (I _)), (1, .int (I _)), (0, .ref _)] rfl (fun ls hl => ?_)
      refine lv_goto (tgt := 4) hx hb dX3_nextEnd_26 (by decide) ?_
      exact ih (i + 1) (by omega) locs ls hS (lv_sub hl [2, 1, 0] rfl)
  exact LOOP4 6 0 (by omega) _ _ hS (lv_sub hl [2, 1, 0] rfl)
set_option maxHeartbeats 4000000 in
set_option maxRecDepth 100000 in
theorem m_X3_differsFromTruth (l : Launch) (E : Env3) (α : Nat → Nat) (st : S) (T : Int) (hI : IB T st) (r : Nat) (hr : r < 36) : Met l yX3_differsFromTruth (Cond.code yX3_differsFromTruth cX3_differsFromTruth 4 (some .boolean) :: ALL) ({ frames := 2, cells := 0, slots := 0, locals := 42 }) (pR [.ref (α 0), .int (I (r : Int))] E (stW E α st)) (qS (some (.int (I (oldI st r))))) 0 0 (fun _ => False) := by
  refine mk_met (by decide) rfl (Nat.le_of_ble_eq_true rfl) ?_
  intro p e s m args below meth c hx hb hrt hml hts hown hlocks hnm hP hK ls hl
  have hown : s.vm.findClass RX3 = some m.cls := hown
  have hl : lv_has ls 4 [(0, .ref (α 0)), (1, .int (I (r : Int)))] := hl
  have hS : va_S (fun _ => False) s.heap s.heap [] := va_S.rf
  have t1 := (hI.2.2.2 r hr).1
  unfold triT at t1
  have t3 := (hI.2.2.2 r hr).2
  unfold triM at t3
  refine lv_aload_n hx hb dX3_differsFromTruth_0 rfl (lv_lk hl rfl) ?_
  refine va_get (D := E.1) (ci := 3) hx hb hts inX3 hown hK.1 hP 0 rfl rfl 3 (by decide) (hts _ fl_X3_25) (fun _ h9 => h9) rfl dX3_differsFromTruth_1 ?_
  refine lv_iload_n hx hb dX3_differsFromTruth_4 rfl (lv_lk hl rfl) ?_
  refine call_S (va_runV ⟨hx, hb, hml, hown, hts⟩ (m_X2_kind l E (α 9) (α 10) (α 11) (α 12) (mK st) (mV st) (mE st) r (by omega)) (cwV 1 hts (gi_V ml_X3_64 im_X2_kind sl_X2_kind it_X2 cd_X2_kind) rfl rfl rfl (by decide +kernel) ⟨Nat.le_of_ble_eq_true rfl, Nat.le_of_ble_eq_true rfl⟩) (pR_V (q0 := 0) (ci := 2) (hP.sub (ws' := (repW E (α 9) (α 10) (α 11) (α 12) (mK st) (mV st) (mE st))) [9, 10, 11, 12] rfl) hK rfl rfl) rfl rfl hl.1 rfl (lv_room (Nat.le_of_ble_eq_true rfl)) dX3_differsFromTruth_5 ⟨Nat.le_of_ble_eq_true rfl, Nat.le_of_ble_eq_true rfl⟩) (fun _ h => h) hS rfl (fun locs hS => ?_)
  refine iv_eq (st (36 + 6 * r + 3)) (rfl) ?_
  refine lv_istore_n (lv' := [(2, .int (I _)), (0, .ref _), (1, .int (I _))]) hx hb dX3_differsFromTruth_8 rfl hl (by decide) rfl (fun ls hl => ?_)
  refine lv_iload_n hx hb dX3_differsFromTruth_9 rfl (lv_lk hl rfl) ?_
  refine iv_if_ne (tgt := 15) hx hb dX3_differsFromTruth_10 (by decide) (by omega) (fun c_10 => ?_) (fun c_10 => ?_)
  · refine lv_aload_n hx hb dX3_differsFromTruth_15 rfl (lv_lk hl rfl) ?_
    refine va_get (D := E.1) (ci := 3) hx hb hts inX3 hown hK.1 hP 0 rfl rfl 2 (by decide) (hts _ fl_X3_21) (fun _ h9 => h9) rfl dX3_differsFromTruth_16 ?_
    refine lv_iload_n hx hb dX3_differsFromTruth_19 rfl (lv_lk hl rfl) ?_
    refine call_S (va_runV ⟨hx, hb, hml, hown, hts⟩ (m_X2_kind l E (α 5) (α 6) (α 7) (α 8) (tK st) (tV st) (tA st) r (by omega)) (cwV 1 hts (gi_V ml_X3_64 im_X2_kind sl_X2_kind it_X2 cd_X2_kind) rfl rfl rfl (by decide +kernel) ⟨Nat.le_of_ble_eq_true rfl, Nat.le_of_ble_eq_true rfl⟩) (pR_V (q0 := 0) (ci := 2) (hP.sub (ws' := (repW E (α 5) (α 6) (α 7) (α 8) (tK st) (tV st) (tA st))) [5, 6, 7, 8] rfl) hK rfl rfl) rfl rfl hl.1 rfl (lv_room (Nat.le_of_ble_eq_true rfl)) dX3_differsFromTruth_20 ⟨Nat.le_of_ble_eq_true rfl, Nat.le_of_ble_eq_true rfl⟩) (fun _ h => h) hS rfl (fun locs hS => ?_)
    refine iv_eq (st (36 + 6 * r)) (rfl) ?_
    refine iv_if_ne (tgt := 30) hx hb dX3_differsFromTruth_23 (by decide) (by omega) (fun c_23 => ?_) (fun c_23 => ?_)
    · refine lv_aload_n hx hb dX3_differsFromTruth_30 rfl (lv_lk hl rfl) ?_
      refine va_get (D := E.1) (ci := 3) hx hb hts inX3 hown hK.1 hP 0 rfl rfl 2 (by decide) (hts _ fl_X3_21) (fun _ h9 => h9) rfl dX3_differsFromTruth_31 ?_
      refine lv_iload_n hx hb dX3_differsFromTruth_34 rfl (lv_lk hl rfl) ?_
      refine call_S (va_runV ⟨hx, hb, hml, hown, hts⟩ (m_X2_kind l E (α 5) (α 6) (α 7) (α 8) (tK st) (tV st) (tA st) r (by omega)) (cwV 1 hts (gi_V ml_X3_64 im_X2_kind sl_X2_kind it_X2 cd_X2_kind) rfl rfl rfl (by decide +kernel) ⟨Nat.le_of_ble_eq_true rfl, Nat.le_of_ble_eq_true rfl⟩) (pR_V (q0 := 0) (ci := 2) (hP.sub (ws' := (repW E (α 5) (α 6) (α 7) (α 8) (tK st) (tV st) (tA st))) [5, 6, 7, 8] rfl) hK rfl rfl) rfl rfl hl.1 rfl (lv_room (Nat.le_of_ble_eq_true rfl)) dX3_differsFromTruth_35 ⟨Nat.le_of_ble_eq_true rfl, Nat.le_of_ble_eq_true rfl⟩) (fun _ h => h) hS rfl (fun locs hS => ?_)
      refine iv_eq (st (36 + 6 * r)) (rfl) ?_
      refine lv_istore_n (lv' := [(3, .int (I _)), (2, .int (I _)), (0, .ref _), (1, .int (I _))]) hx hb dX3_differsFromTruth_38 rfl hl (by decide) rfl (fun ls hl => ?_)
      refine lv_iload_n hx hb dX3_differsFromTruth_39 rfl (lv_lk hl rfl) ?_
      refine lv_iload_n hx hb dX3_differsFromTruth_40 rfl (lv_lk hl rfl) ?_
      refine iv_icmp_ne (tgt := 63) hx hb dX3_differsFromTruth_41 (by decide) (by omega) (by omega) (fun c_41 => ?_) (fun c_41 => ?_)
      · refine iv_iconst hx hb dX3_differsFromTruth_63 ?_
        refine lv_goto (tgt := 68) hx hb dX3_differsFromTruth_64 (by decide) ?_
        refine iv_eq (oldI st r) (by unfold oldI; (repeat split) <;> omega) ?_
        exact W.zret (ty := .boolean) hx hb hrt old_nar (fun t ht hW => ⟨rfl, ht⟩) hS.2.2 dX3_differsFromTruth_68 hlocks
      · refine lv_aload_n hx hb dX3_differsFromTruth_44 rfl (lv_lk hl rfl) ?_
        refine va_get (D := E.1) (ci := 3) hx hb hts inX3 hown hK.1 hP 0 rfl rfl 3 (by decide) (hts _ fl_X3_25) (fun _ h9 => h9) rfl dX3_differsFromTruth_45 ?_
        refine lv_iload_n hx hb dX3_differsFromTruth_48 rfl (lv_lk hl rfl) ?_
        refine call_S (va_runV ⟨hx, hb, hml, hown, hts⟩ (m_X2_value l E (α 9) (α 10) (α 11) (α 12) (mK st) (mV st) (mE st) r (by omega)) (cwV 1 hts (gi_V ml_X3_68 im_X2_value sl_X2_value it_X2 cd_X2_value) rfl rfl rfl (by decide +kernel) ⟨Nat.le_of_ble_eq_true rfl, Nat.le_of_ble_eq_true rfl⟩) (pR_V (q0 := 0) (ci := 2) (hP.sub (ws' := (repW E (α 9) (α 10) (α 11) (α 12) (mK st) (mV st) (mE st))) [9, 10, 11, 12] rfl) hK rfl rfl) rfl rfl hl.1 rfl (lv_room (Nat.le_of_ble_eq_true rfl)) dX3_differsFromTruth_49 ⟨Nat.le_of_ble_eq_true rfl, Nat.le_of_ble_eq_true rfl⟩) (fun _ h => h) hS rfl (fun locs hS => ?_)
        refine iv_eq (st (36 + 6 * r + 4)) (if_neg c_10) ?_
        refine lv_aload_n hx hb dX3_differsFromTruth_52 rfl (lv_lk hl rfl) ?_
        refine va_get (D := E.1) (ci := 3) hx hb hts inX3 hown hK.1 hP 0 rfl rfl 2 (by decide) (hts _ fl_X3_21) (fun _ h9 => h9) rfl dX3_differsFromTruth_53 ?_
        refine lv_iload_n hx hb dX3_differsFromTruth_56 rfl (lv_lk hl rfl) ?_
        refine call_S (va_runV ⟨hx, hb, hml, hown, hts⟩ (m_X2_value l E (α 5) (α 6) (α 7) (α 8) (tK st) (tV st) (tA st) r (by omega)) (cwV 1 hts (gi_V ml_X3_68 im_X2_value sl_X2_value it_X2 cd_X2_value) rfl rfl rfl (by decide +kernel) ⟨Nat.le_of_ble_eq_true rfl, Nat.le_of_ble_eq_true rfl⟩) (pR_V (q0 := 0) (ci := 2) (hP.sub (ws' := (repW E (α 5) (α 6) (α 7) (α 8) (tK st) (tV st) (tA st))) [5, 6, 7, 8] rfl) hK rfl rfl) rfl rfl hl.1 rfl (lv_room (Nat.le_of_ble_eq_true rfl)) dX3_differsFromTruth_57 ⟨Nat.le_of_ble_eq_true rfl, Nat.le_of_ble_eq_true rfl⟩) (fun _ h => h) hS rfl (fun locs hS => ?_)
        refine iv_eq (st (36 + 6 * r + 1)) (rfl) ?_
        refine iv_icmp_eq (tgt := 67) hx hb dX3_differsFromTruth_60 (by decide) (by omega) (by omega) (fun c_60 => ?_) (fun c_60 => ?_)
        · refine iv_iconst hx hb dX3_differsFromTruth_67 ?_
          refine iv_eq (oldI st r) (by unfold oldI; (repeat split) <;> omega) ?_
          exact W.zret (ty := .boolean) hx hb hrt old_nar (fun t ht hW => ⟨rfl, ht⟩) hS.2.2 dX3_differsFromTruth_68 hlocks
        · refine iv_iconst hx hb dX3_differsFromTruth_63 ?_
          refine lv_goto (tgt := 68) hx hb dX3_differsFromTruth_64 (by decide) ?_
          refine iv_eq (oldI st r) (by unfold oldI; (repeat split) <;> omega) ?_
          exact W.zret (ty := .boolean) hx hb hrt old_nar (fun t ht hW => ⟨rfl, ht⟩) hS.2.2 dX3_differsFromTruth_68 hlocks
    · refine iv_iconst hx hb dX3_differsFromTruth_26 ?_
      refine lv_goto (tgt := 38) hx hb dX3_differsFromTruth_27 (by decide) ?_
      refine lv_istore_n (lv' := [(3, .int (I _)), (2, .int (I _)), (0, .ref _), (1, .int (I _))]) hx hb dX3_differsFromTruth_38 rfl hl (by decide) rfl (fun ls hl => ?_)
      refine lv_iload_n hx hb dX3_differsFromTruth_39 rfl (lv_lk hl rfl) ?_
      refine lv_iload_n hx hb dX3_differsFromTruth_40 rfl (lv_lk hl rfl) ?_
      refine iv_icmp_ne (tgt := 63) hx hb dX3_differsFromTruth_41 (by decide) (by omega) (by omega) (fun c_41 => ?_) (fun c_41 => ?_)
      · refine iv_iconst hx hb dX3_differsFromTruth_63 ?_
        refine lv_goto (tgt := 68) hx hb dX3_differsFromTruth_64 (by decide) ?_
        refine iv_eq (oldI st r) (by unfold oldI; (repeat split) <;> omega) ?_
        exact W.zret (ty := .boolean) hx hb hrt old_nar (fun t ht hW => ⟨rfl, ht⟩) hS.2.2 dX3_differsFromTruth_68 hlocks
      · refine lv_aload_n hx hb dX3_differsFromTruth_44 rfl (lv_lk hl rfl) ?_
        refine va_get (D := E.1) (ci := 3) hx hb hts inX3 hown hK.1 hP 0 rfl rfl 3 (by decide) (hts _ fl_X3_25) (fun _ h9 => h9) rfl dX3_differsFromTruth_45 ?_
        refine lv_iload_n hx hb dX3_differsFromTruth_48 rfl (lv_lk hl rfl) ?_
        refine call_S (va_runV ⟨hx, hb, hml, hown, hts⟩ (m_X2_value l E (α 9) (α 10) (α 11) (α 12) (mK st) (mV st) (mE st) r (by omega)) (cwV 1 hts (gi_V ml_X3_68 im_X2_value sl_X2_value it_X2 cd_X2_value) rfl rfl rfl (by decide +kernel) ⟨Nat.le_of_ble_eq_true rfl, Nat.le_of_ble_eq_true rfl⟩) (pR_V (q0 := 0) (ci := 2) (hP.sub (ws' := (repW E (α 9) (α 10) (α 11) (α 12) (mK st) (mV st) (mE st))) [9, 10, 11, 12] rfl) hK rfl rfl) rfl rfl hl.1 rfl (lv_room (Nat.le_of_ble_eq_true rfl)) dX3_differsFromTruth_49 ⟨Nat.le_of_ble_eq_true rfl, Nat.le_of_ble_eq_true rfl⟩) (fun _ h => h) hS rfl (fun locs hS => ?_)
        refine iv_eq (st (36 + 6 * r + 4)) (if_neg c_10) ?_
        refine lv_aload_n hx hb dX3_differsFromTruth_52 rfl (lv_lk hl rfl) ?_
        refine va_get (D := E.1) (ci := 3) hx hb hts inX3 hown hK.1 hP 0 rfl rfl 2 (by decide) (hts _ fl_X3_21) (fun _ h9 => h9) rfl dX3_differsFromTruth_53 ?_
        refine lv_iload_n hx hb dX3_differsFromTruth_56 rfl (lv_lk hl rfl) ?_
        refine call_S (va_runV ⟨hx, hb, hml, hown, hts⟩ (m_X2_value l E (α 5) (α 6) (α 7) (α 8) (tK st) (tV st) (tA st) r (by omega)) (cwV 1 hts (gi_V ml_X3_68 im_X2_value sl_X2_value it_X2 cd_X2_value) rfl rfl rfl (by decide +kernel) ⟨Nat.le_of_ble_eq_true rfl, Nat.le_of_ble_eq_true rfl⟩) (pR_V (q0 := 0) (ci := 2) (hP.sub (ws' := (repW E (α 5) (α 6) (α 7) (α 8) (tK st) (tV st) (tA st))) [5, 6, 7, 8] rfl) hK rfl rfl) rfl rfl hl.1 rfl (lv_room (Nat.le_of_ble_eq_true rfl)) dX3_differsFromTruth_57 ⟨Nat.le_of_ble_eq_true rfl, Nat.le_of_ble_eq_true rfl⟩) (fun _ h => h) hS rfl (fun locs hS => ?_)
        refine iv_eq (st (36 + 6 * r + 1)) (rfl) ?_
        refine iv_icmp_eq (tgt := 67) hx hb dX3_differsFromTruth_60 (by decide) (by omega) (by omega) (fun c_60 => ?_) (fun c_60 => ?_)
        · refine iv_iconst hx hb dX3_differsFromTruth_67 ?_
          refine iv_eq (oldI st r) (by unfold oldI; (repeat split) <;> omega) ?_
          exact W.zret (ty := .boolean) hx hb hrt old_nar (fun t ht hW => ⟨rfl, ht⟩) hS.2.2 dX3_differsFromTruth_68 hlocks
        · refine iv_iconst hx hb dX3_differsFromTruth_63 ?_
          refine lv_goto (tgt := 68) hx hb dX3_differsFromTruth_64 (by decide) ?_
          refine iv_eq (oldI st r) (by unfold oldI; (repeat split) <;> omega) ?_
          exact W.zret (ty := .boolean) hx hb hrt old_nar (fun t ht hW => ⟨rfl, ht⟩) hS.2.2 dX3_differsFromTruth_68 hlocks
  · refine iv_iconst hx hb dX3_differsFromTruth_13 ?_
    refine iv_eq (oldI st r) (by rw [oldI, if_pos c_10]) ?_
    exact W.zret (ty := .boolean) hx hb hrt old_nar (fun t ht hW => ⟨rfl, ht⟩) hS.2.2 dX3_differsFromTruth_14 hlocks
set_option maxHeartbeats 4000000 in
set_option maxRecDepth 100000 in
theorem m_X3_resultAfter (l : Launch) (E : Env3) (α : Nat → Nat) (st : S) (T : Int) (hI : IB T st) (t : Int) (ht : 0 ≤ t ∧ t ≤ 1000) (r : Nat) (hr : r < 36) : Met l yX3_resultAfter (Cond.code yX3_resultAfter cX3_resultAfter 6 (some .int) :: ALL) ({ frames := 2, cells := 0, slots := 0, locals := 42 }) (pR [.ref (α 0), .int (I t), .int (I (r : Int))] E (stW E α st)) (qS (some (.int (I (resF 7 st t r))))) 0 0 (fun _ => False) := by
  refine mk_met (by decide) rfl (Nat.le_of_ble_eq_true rfl) ?_
  intro p e s m args below meth c hx hb hrt hml hts hown hlocks hnm hP hK ls hl
  have hown : s.vm.findClass RX3 = some m.cls := hown
  have hl : lv_has ls 6 [(0, .ref (α 0)), (1, .int (I t)), (2, .int (I (r : Int)))] := hl
  have hS : va_S (fun _ => False) s.heap s.heap [] := va_S.rf
  refine lv_iload_n hx hb dX3_resultAfter_0 rfl (lv_lk hl rfl) ?_
  refine lv_istore_n (lv' := [(3, .int (I _)), (0, .ref _), (1, .int (I _)), (2, .int (I _))]) hx hb dX3_resultAfter_1 rfl hl (by decide) rfl (fun ls hl => ?_)
  refine iv_iconst hx hb dX3_resultAfter_2 ?_
  refine lv_istore (lv' := [(4, .int (I _)), (3, .int (I _)), (0, .ref _), (1, .int (I _)), (2, .int (I _))]) hx hb dX3_resultAfter_3 hl (by decide) rfl (fun ls hl => ?_)
  have LOOP5 : ∀ (n9 i : Nat) (q : Nat), (q < 36) → (i + n9 = 7) → (resF n9 st t q = resF 7 st t r) → ∀ (locs : List Loc) (ls : Array Slot), va_S (fun _ => False) s.heap s.heap locs → lv_has ls 6 [(0, .ref (α 0)), (1, .int (I t)), (2, .int (I (r : Int))), (3, .int (I (q : Int))), (4, .int (I (i : Int)))] → W p l e ({ frames := 2, cells := 0, slots := 0, locals := 42 }) s m args below meth c s.heap locs 0 0 (MQ below (qS (some (.int (I (resF 7 st t r))))) args s 0 0 (fun _ => False)) (F0 m 5 ls []) := by
    intro n9
    induction n9 with
    | zero =>
      intro  i q hq hi9 he9 locs ls hS hl
      refine lv_iload hx hb dX3_resultAfter_5 (lv_lk hl rfl) ?_
      refine iv_bipush hx hb dX3_resultAfter_7 (by decide +kernel) ?_
      refine iv_icmp_gt (tgt := 72) hx hb dX3_resultAfter_9 (by decide) (by omega) (by omega) (fun c_9 => ?_) (fun c_9 => by exfalso; omega)
      refine iv_bipush hx hb dX3_resultAfter_72 (by decide +kernel) ?_
      refine iv_eq (resF 7 st t r) (by rw [← he9]; rfl) ?_
      exact W.iret hx hb hrt (fun t ht hW => ⟨rfl, ht⟩) hS.2.2 dX3_resultAfter_74 hlocks
    | succ n9 ih =>
      intro  i q hq hi9 he9 locs ls hS hl
      have t1 := (hI.2.2.2 q hq).1
      unfold triT at t1
      have t3 := (hI.2.2.2 q hq).2
      unfold triM at t3
      have t0 := hI.1
      refine lv_iload hx hb dX3_resultAfter_5 (lv_lk hl rfl) ?_
      refine iv_bipush hx hb dX3_resultAfter_7 (by decide +kernel) ?_
      refine iv_icmp_gt (tgt := 72) hx hb dX3_resultAfter_9 (by decide) (by omega) (by omega) (fun c_9 => by exfalso; omega) (fun c_9 => ?_)
      refine lv_aload_n hx hb dX3_resultAfter_12 rfl (lv_lk hl rfl) ?_
      refine va_get (D := E.1) (ci := 3) hx hb hts inX3 hown hK.1 hP 0 rfl rfl 3 (by decide) (hts _ fl_X3_25) (fun _ h9 => h9) rfl dX3_resultAfter_13 ?_
      refine lv_iload_n hx hb dX3_resultAfter_16 rfl (lv_lk hl rfl) ?_
      refine call_S (va_runV ⟨hx, hb, hml, hown, hts⟩ (m_X2_ticks l E (α 9) (α 10) (α 11) (α 12) (mK st) (mV st) (mE st) q (by omega)) (cwV 1 hts (gi_V ml_X3_112 im_X2_ticks sl_X2_ticks it_X2 cd_X2_ticks) rfl rfl rfl (by decide +kernel) ⟨Nat.le_of_ble_eq_true rfl, Nat.le_of_ble_eq_true rfl⟩) (pR_V (q0 := 0) (ci := 2) (hP.sub (ws' := (repW E (α 9) (α 10) (α 11) (α 12) (mK st) (mV st) (mE st))) [9, 10, 11, 12] rfl) hK rfl rfl) rfl rfl hl.1 rfl (lv_room (Nat.le_of_ble_eq_true rfl)) dX3_resultAfter_17 ⟨Nat.le_of_ble_eq_true rfl, Nat.le_of_ble_eq_true rfl⟩) (fun _ h => h) hS rfl (fun locs hS => ?_)
      refine iv_eq (st (36 + 6 * q + 5)) (rfl) ?_
      refine lv_aload_n hx hb dX3_resultAfter_20 rfl (lv_lk hl rfl) ?_
      refine va_get (D := E.1) (ci := 3) hx hb hts inX3 hown hK.1 hP 0 rfl rfl 0 (by decide) (hts _ fl_X3_39) (fun _ h9 => h9) rfl dX3_resultAfter_21 ?_
      refine lv_iload_n hx hb dX3_resultAfter_24 rfl (lv_lk hl rfl) ?_
      refine iv_iadd hx hb dX3_resultAfter_25 ?_
      refine iv_icmp_le (tgt := 36) hx hb dX3_resultAfter_26 (by decide) (by omega) (by omega) (fun c_26 => ?_) (fun c_26 => ?_)
      · refine lv_aload_n hx hb dX3_resultAfter_36 rfl (lv_lk hl rfl) ?_
        refine va_get (D := E.1) (ci := 3) hx hb hts inX3 hown hK.1 hP 0 rfl rfl 2 (by decide) (hts _ fl_X3_21) (fun _ h9 => h9) rfl dX3_resultAfter_37 ?_
        refine lv_astore (lv' := [(5, .ref _), (0, .ref _), (1, .int (I _)), (2, .int (I _)), (3, .int (I _)), (4, .int (I _))]) hx hb dX3_resultAfter_40 hl (by decide) rfl (fun ls hl => ?_)
        refine lv_aload hx hb dX3_resultAfter_42 (lv_lk hl rfl) ?_
        refine lv_iload_n hx hb dX3_resultAfter_44 rfl (lv_lk hl rfl) ?_
        refine call_S (va_runV ⟨hx, hb, hml, hown, hts⟩ (m_X2_kind l E (α 5) (α 6) (α 7) (α 8) (tK st) (tV st) (tA st) q (by omega)) (cwV 1 hts (gi_V ml_X3_64 im_X2_kind sl_X2_kind it_X2 cd_X2_kind) rfl rfl rfl (by decide +kernel) ⟨Nat.le_of_ble_eq_true rfl, Nat.le_of_ble_eq_true rfl⟩) (pR_V (q0 := 0) (ci := 2) (hP.sub (ws' := (repW E (α 5) (α 6) (α 7) (α 8) (tK st) (tV st) (tA st))) [5, 6, 7, 8] rfl) hK rfl rfl) rfl rfl hl.1 rfl (lv_room (Nat.le_of_ble_eq_true rfl)) dX3_resultAfter_45 ⟨Nat.le_of_ble_eq_true rfl, Nat.le_of_ble_eq_true rfl⟩) (fun _ h => h) hS rfl (fun locs hS => ?_)
        refine iv_eq (st (36 + 6 * q)) (rfl) ?_
        refine iv_iconst hx hb dX3_resultAfter_48 ?_
        refine iv_icmp_eq (tgt := 59) hx hb dX3_resultAfter_49 (by decide) (by omega) (by omega) (fun c_49 => ?_) (fun c_49 => ?_)
        · refine lv_aload hx hb dX3_resultAfter_59 (lv_lk hl rfl) ?_
          refine lv_iload_n hx hb dX3_resultAfter_61 rfl (lv_lk hl rfl) ?_
          refine call_S (va_runV ⟨hx, hb, hml, hown, hts⟩ (m_X2_value l E (α 5) (α 6) (α 7) (α 8) (tK st) (tV st) (tA st) q (by omega)) (cwV 1 hts (gi_V ml_X3_68 im_X2_value sl_X2_value it_X2 cd_X2_value) rfl rfl rfl (by decide +kernel) ⟨Nat.le_of_ble_eq_true rfl, Nat.le_of_ble_eq_true rfl⟩) (pR_V (q0 := 0) (ci := 2) (hP.sub (ws' := (repW E (α 5) (α 6) (α 7) (α 8) (tK st) (tV st) (tA st))) [5, 6, 7, 8] rfl) hK rfl rfl) rfl rfl hl.1 rfl (lv_room (Nat.le_of_ble_eq_true rfl)) dX3_resultAfter_62 ⟨Nat.le_of_ble_eq_true rfl, Nat.le_of_ble_eq_true rfl⟩) (fun _ h => h) hS rfl (fun locs hS => ?_)
          refine iv_eq (st (36 + 6 * q + 1)) (rfl) ?_
          refine iv_eq (((((st (36 + 6 * q + 1)).toNat : Nat)) : Int)) (by omega) ?_
          refine lv_istore_n (lv' := [(3, .int (I _)), (5, .ref _), (0, .ref _), (1, .int (I _)), (2, .int (I _)), (4, .int (I _))]) hx hb dX3_resultAfter_65 rfl hl (by decide) rfl (fun ls hl => ?_)
          refine iv_iinc (k := 5) hx hb dX3_resultAfter_66 hl rfl (((i + 1 : Nat) : Int)) (by omega) (by decide) [(4, .int (I _)), (3, .int (I _)), (5, .ref _), (0, .ref _), (1, .int (I _)), (2, .int (I _))] rfl (fun ls hl => ?_)
          refine lv_goto (tgt := 5) hx hb dX3_resultAfter_69 (by decide) ?_
          exact ih (i + 1) (st (36 + 6 * q + 1)).toNat (by omega) (by omega) (by rw [← he9, resF.eq_2, if_neg (by omega : ¬ st 0 + t < st (36 + 6 * q + 5)), if_pos c_49]) locs ls hS (lv_sub hl [3, 4, 5, 1, 0] rfl)
        · refine lv_aload hx hb dX3_resultAfter_52 (lv_lk hl rfl) ?_
          refine lv_iload_n hx hb dX3_resultAfter_54 rfl (lv_lk hl rfl) ?_
          refine call_S (va_runV ⟨hx, hb, hml, hown, hts⟩ (m_X2_value l E (α 5) (α 6) (α 7) (α 8) (tK st) (tV st) (tA st) q (by omega)) (cwV 1 hts (gi_V ml_X3_68 im_X2_value sl_X2_value it_X2 cd_X2_value) rfl rfl rfl (by decide +kernel) ⟨Nat.le_of_ble_eq_true rfl, Nat.le_of_ble_eq_true rfl⟩) (pR_V (q0 := 0) (ci := 2) (hP.sub (ws' := (repW E (α 5) (α 6) (α 7) (α 8) (tK st) (tV st) (tA st))) [5, 6, 7, 8] rfl) hK rfl rfl) rfl rfl hl.1 rfl (lv_room (Nat.le_of_ble_eq_true rfl)) dX3_resultAfter_55 ⟨Nat.le_of_ble_eq_true rfl, Nat.le_of_ble_eq_true rfl⟩) (fun _ h => h) hS rfl (fun locs hS => ?_)
          refine iv_eq (st (36 + 6 * q + 1)) (rfl) ?_
          refine iv_eq (resF 7 st t r) (by rw [← he9, resF, if_neg (by omega : ¬ st 0 + t < st (36 + 6 * q + 5)), if_neg c_49]) ?_
          exact W.iret hx hb hrt (fun t ht hW => ⟨rfl, ht⟩) hS.2.2 dX3_resultAfter_58 hlocks
      · refine lv_aload_n hx hb dX3_resultAfter_29 rfl (lv_lk hl rfl) ?_
        refine va_get (D := E.1) (ci := 3) hx hb hts inX3 hown hK.1 hP 0 rfl rfl 3 (by decide) (hts _ fl_X3_25) (fun _ h9 => h9) rfl dX3_resultAfter_30 ?_
        refine lv_goto (tgt := 40) hx hb dX3_resultAfter_33 (by decide) ?_
        refine lv_astore (lv' := [(5, .ref _), (0, .ref _), (1, .int (I _)), (2, .int (I _)), (3, .int (I _)), (4, .int (I _))]) hx hb dX3_resultAfter_40 hl (by decide) rfl (fun ls hl => ?_)
        refine lv_aload hx hb dX3_resultAfter_42 (lv_lk hl rfl) ?_
        refine lv_iload_n hx hb dX3_resultAfter_44 rfl (lv_lk hl rfl) ?_
        refine call_S (va_runV ⟨hx, hb, hml, hown, hts⟩ (m_X2_kind l E (α 9) (α 10) (α 11) (α 12) (mK st) (mV st) (mE st) q (by omega)) (cwV 1 hts (gi_V ml_X3_64 im_X2_kind sl_X2_kind it_X2 cd_X2_kind) rfl rfl rfl (by decide +kernel) ⟨Nat.le_of_ble_eq_true rfl, Nat.le_of_ble_eq_true rfl⟩) (pR_V (q0 := 0) (ci := 2) (hP.sub (ws' := (repW E (α 9) (α 10) (α 11) (α 12) (mK st) (mV st) (mE st))) [9, 10, 11, 12] rfl) hK rfl rfl) rfl rfl hl.1 rfl (lv_room (Nat.le_of_ble_eq_true rfl)) dX3_resultAfter_45 ⟨Nat.le_of_ble_eq_true rfl, Nat.le_of_ble_eq_true rfl⟩) (fun _ h => h) hS rfl (fun locs hS => ?_)
        refine iv_eq (st (36 + 6 * q + 3)) (rfl) ?_
        refine iv_iconst hx hb dX3_resultAfter_48 ?_
        refine iv_icmp_eq (tgt := 59) hx hb dX3_resultAfter_49 (by decide) (by omega) (by omega) (fun c_49 => ?_) (fun c_49 => ?_)
        · refine lv_aload hx hb dX3_resultAfter_59 (lv_lk hl rfl) ?_
          refine lv_iload_n hx hb dX3_resultAfter_61 rfl (lv_lk hl rfl) ?_
          refine call_S (va_runV ⟨hx, hb, hml, hown, hts⟩ (m_X2_value l E (α 9) (α 10) (α 11) (α 12) (mK st) (mV st) (mE st) q (by omega)) (cwV 1 hts (gi_V ml_X3_68 im_X2_value sl_X2_value it_X2 cd_X2_value) rfl rfl rfl (by decide +kernel) ⟨Nat.le_of_ble_eq_true rfl, Nat.le_of_ble_eq_true rfl⟩) (pR_V (q0 := 0) (ci := 2) (hP.sub (ws' := (repW E (α 9) (α 10) (α 11) (α 12) (mK st) (mV st) (mE st))) [9, 10, 11, 12] rfl) hK rfl rfl) rfl rfl hl.1 rfl (lv_room (Nat.le_of_ble_eq_true rfl)) dX3_resultAfter_62 ⟨Nat.le_of_ble_eq_true rfl, Nat.le_of_ble_eq_true rfl⟩) (fun _ h => h) hS rfl (fun locs hS => ?_)
          refine iv_eq (st (36 + 6 * q + 4)) (if_neg (by omega)) ?_
          refine iv_eq (((((st (36 + 6 * q + 4)).toNat : Nat)) : Int)) (by omega) ?_
          refine lv_istore_n (lv' := [(3, .int (I _)), (5, .ref _), (0, .ref _), (1, .int (I _)), (2, .int (I _)), (4, .int (I _))]) hx hb dX3_resultAfter_65 rfl hl (by decide) rfl (fun ls hl => ?_)
          refine iv_iinc (k := 5) hx hb dX3_resultAfter_66 hl rfl (((i + 1 : Nat) : Int)) (by omega) (by decide) [(4, .int (I _)), (3, .int (I _)), (5, .ref _), (0, .ref _), (1, .int (I _)), (2, .int (I _))] rfl (fun ls hl => ?_)
          refine lv_goto (tgt := 5) hx hb dX3_resultAfter_69 (by decide) ?_
          exact ih (i + 1) (st (36 + 6 * q + 4)).toNat (by omega) (by omega) (by rw [← he9, resF.eq_2, if_pos (by omega : st 0 + t < st (36 + 6 * q + 5)), if_pos c_49]) locs ls hS (lv_sub hl [3, 4, 5, 1, 0] rfl)
        · refine lv_aload hx hb dX3_resultAfter_52 (lv_lk hl rfl) ?_
          refine lv_iload_n hx hb dX3_resultAfter_54 rfl (lv_lk hl rfl) ?_
          refine call_S (va_runV ⟨hx, hb, hml, hown, hts⟩ (m_X2_value l E (α 9) (α 10) (α 11) (α 12) (mK st) (mV st) (mE st) q (by omega)) (cwV 1 hts (gi_V ml_X3_68 im_X2_value sl_X2_value it_X2 cd_X2_value) rfl rfl rfl (by decide +kernel) ⟨Nat.le_of_ble_eq_true rfl, Nat.le_of_ble_eq_true rfl⟩) (pR_V (q0 := 0) (ci := 2) (hP.sub (ws' := (repW E (α 9) (α 10) (α 11) (α 12) (mK st) (mV st) (mE st))) [9, 10, 11, 12] rfl) hK rfl rfl) rfl rfl hl.1 rfl (lv_room (Nat.le_of_ble_eq_true rfl)) dX3_resultAfter_55 ⟨Nat.le_of_ble_eq_true rfl, Nat.le_of_ble_eq_true rfl⟩) (fun _ h => h) hS rfl (fun locs hS => ?_)
          refine iv_eq (resF 7 st t r) (by rw [← he9, resF, if_pos (by omega : st 0 + t < st (36 + 6 * q + 5)), if_neg c_49]) ?_
          exact W.iret hx hb hrt (fun t ht hW => ⟨rfl, ht⟩) hS.2.2 dX3_resultAfter_58 hlocks
  exact LOOP5 7 0 r hr (by omega) rfl _ _ hS (lv_sub hl [2, 3, 4, 1, 0] rfl)
set_option maxHeartbeats 4000000 in
set_option maxRecDepth 100000 in
theorem m_X3_trueResult (l : Launch) (E : Env3) (α : Nat → Nat) (st : S) (T : Int) (hI : IB T st) (hi9 : IT st) (r : Nat) (hr : r < 36) : Met l yX3_trueResult (Cond.code yX3_trueResult cX3_trueResult 2 (some .int) :: ALL) ({ frames := 3, cells := 0, slots := 0, locals := 67 }) (pR [.ref (α 0), .int (I (r : Int))] E (stW E α st)) (qS (some (.int (I (truthF 7 st r))))) 0 0 (fun _ => False) := by
  refine mk_met (by decide) rfl (Nat.le_of_ble_eq_true rfl) ?_
  intro p e s m args below meth c hx hb hrt hml hts hown hlocks hnm hP hK ls hl
  have hown : s.vm.findClass RX3 = some m.cls := hown
  have hl : lv_has ls 2 [(0, .ref (α 0)), (1, .int (I (r : Int)))] := hl
  have hS : va_S (fun _ => False) s.heap s.heap [] := va_S.rf
  refine lv_aload_n hx hb dX3_trueResult_0 rfl (lv_lk hl rfl) ?_
  refine iv_bipush hx hb dX3_trueResult_1 (by decide +kernel) ?_
  refine lv_iload_n hx hb dX3_trueResult_3 rfl (lv_lk hl rfl) ?_
  refine call_S (va_runV ⟨hx, hb, hml, hown, hts⟩ (m_X3_resultAfter l E α st T hI 99 (by omega) r hr) (cwV 2 hts (gi_V ml_X3_140 im_X3_resultAfter sl_X3_resultAfter it_X3 cd_X3_resultAfter) rfl rfl rfl (by decide +kernel) ⟨Nat.le_of_ble_eq_true rfl, Nat.le_of_ble_eq_true rfl⟩) (pR_V (q0 := 0) (ci := 3) hP hK rfl rfl) rfl rfl hl.1 rfl (lv_room (Nat.le_of_ble_eq_true rfl)) dX3_trueResult_4 ⟨Nat.le_of_ble_eq_true rfl, Nat.le_of_ble_eq_true rfl⟩) (fun _ h => h) hS rfl (fun locs hS => ?_)
  refine iv_eq (truthF 7 st r) (res_truth hI hi9 7 r hr) ?_
  exact W.iret hx hb hrt (fun t ht hW => ⟨rfl, ht⟩) hS.2.2 dX3_trueResult_7 hlocks
set_option maxHeartbeats 4000000 in
set_option maxRecDepth 100000 in
theorem m_X3_waitForTruth (l : Launch) (E : Env3) (α : Nat → Nat) (st : S) (T : Int) (hI : IB T st) (hi9 : IT st) (hT : T ≤ 99900) (r : Nat) (hr : r < 36) : Met l yX3_waitForTruth (Cond.code yX3_waitForTruth cX3_waitForTruth 4 (some .int) :: ALL) ({ frames := 4, cells := 0, slots := 0, locals := 88 }) (pR [.ref (α 0), .int (I (r : Int))] E (stW E α st)) (qS (some (.int (I ((waitF 100 st r 0 : Int)))))) 0 0 (fun _ => False) := by
  refine mk_met (by decide) rfl (Nat.le_of_ble_eq_true rfl) ?_
  intro p e s m args below meth c hx hb hrt hml hts hown hlocks hnm hP hK ls hl
  have hown : s.vm.findClass RX3 = some m.cls := hown
  have hl : lv_has ls 4 [(0, .ref (α 0)), (1, .int (I (r : Int)))] := hl
  have hS : va_S (fun _ => False) s.heap s.heap [] := va_S.rf
  refine lv_aload_n hx hb dX3_waitForTruth_0 rfl (lv_lk hl rfl) ?_
  refine lv_iload_n hx hb dX3_waitForTruth_1 rfl (lv_lk hl rfl) ?_
  refine call_S (va_runV ⟨hx, hb, hml, hown, hts⟩ (m_X3_trueResult l E α st T hI hi9 r hr) (cwV 1 hts (gi_V ml_X3_143 im_X3_trueResult sl_X3_trueResult it_X3 cd_X3_trueResult) rfl rfl rfl (by decide +kernel) ⟨Nat.le_of_ble_eq_true rfl, Nat.le_of_ble_eq_true rfl⟩) (pR_V (q0 := 0) (ci := 3) hP hK rfl rfl) rfl rfl hl.1 rfl (lv_room (Nat.le_of_ble_eq_true rfl)) dX3_waitForTruth_2 ⟨Nat.le_of_ble_eq_true rfl, Nat.le_of_ble_eq_true rfl⟩) (fun _ h => h) hS rfl (fun locs hS => ?_)
  refine lv_istore_n (lv' := [(2, .int (I _)), (0, .ref _), (1, .int (I _))]) hx hb dX3_waitForTruth_5 rfl hl (by decide) rfl (fun ls hl => ?_)
  refine iv_iconst hx hb dX3_waitForTruth_6 ?_
  refine lv_istore_n (lv' := [(3, .int (I _)), (2, .int (I _)), (0, .ref _), (1, .int (I _))]) hx hb dX3_waitForTruth_7 rfl hl (by decide) rfl (fun ls hl => ?_)
  have LOOP8 : ∀ (n9 i : Nat), (i + n9 = 99) → (waitF (n9 + 1) st r i = waitF 100 st r 0) → ∀ (locs : List Loc) (ls : Array Slot), va_S (fun _ => False) s.heap s.heap locs → lv_has ls 4 [(0, .ref (α 0)), (1, .int (I (r : Int))), (2, .int (I (truthF 7 st r))), (3, .int (I (i : Int)))] → W p l e ({ frames := 4, cells := 0, slots := 0, locals := 88 }) s m args below meth c s.heap locs 0 0 (MQ below (qS (some (.int (I ((waitF 100 st r 0 : Int)))))) args s 0 0 (fun _ => False)) (F0 m 8 ls []) := by
    intro n9
    induction n9 with
    | zero =>
      intro  i hi8 he9 locs ls hS hl
      obtain rfl : i = 99 := by omega
      refine lv_iload_n hx hb dX3_waitForTruth_8 rfl (lv_lk hl rfl) ?_
      refine iv_bipush hx hb dX3_waitForTruth_9 (by decide +kernel) ?_
      refine iv_icmp_ge (tgt := 30) hx hb dX3_waitForTruth_11 (by decide) (by omega) (by omega) (fun c_11 => ?_) (fun c_11 => by exfalso; omega)
      refine lv_iload_n hx hb dX3_waitForTruth_30 rfl (lv_lk hl rfl) ?_
      refine iv_eq ((waitF 100 st r 0 : Int)) (by rw [← he9, waitF_e (would_99 hI hi9 hT hr)]) ?_
      exact W.iret hx hb hrt (fun t ht hW => ⟨rfl, ht⟩) hS.2.2 dX3_waitForTruth_31 hlocks
    | succ n9 ih =>
      intro  i hi8 he9 locs ls hS hl
      have q1 := truth_rng hI 7 r hr
      have q3 := would_res hI (t := (i : Int)) (by omega) hr
      have q2 : -2 ≤ wouldIn st r i ∧ wouldIn st r i ≤ 99 := solves_rng 7 (IB_passes hI i (by omega) (T + 100) (by omega)) r hr
      refine lv_iload_n hx hb dX3_waitForTruth_8 rfl (lv_lk hl rfl) ?_
      refine iv_bipush hx hb dX3_waitForTruth_9 (by decide +kernel) ?_
      refine iv_icmp_ge (tgt := 30) hx hb dX3_waitForTruth_11 (by decide) (by omega) (by omega) (fun c_11 => by exfalso; omega) (fun c_11 => ?_)
      refine lv_aload_n hx hb dX3_waitForTruth_14 rfl (lv_lk hl rfl) ?_
      refine lv_iload_n hx hb dX3_waitForTruth_15 rfl (lv_lk hl rfl) ?_
      refine lv_iload_n hx hb dX3_waitForTruth_16 rfl (lv_lk hl rfl) ?_
      refine call_S (va_runV ⟨hx, hb, hml, hown, hts⟩ (m_X3_resultAfter l E α st T hI (i : Int) (by omega) r hr) (cwV 2 hts (gi_V ml_X3_140 im_X3_resultAfter sl_X3_resultAfter it_X3 cd_X3_resultAfter) rfl rfl rfl (by decide +kernel) ⟨Nat.le_of_ble_eq_true rfl, Nat.le_of_ble_eq_true rfl⟩) (pR_V (q0 := 0) (ci := 3) hP hK rfl rfl) rfl rfl hl.1 rfl (lv_room (Nat.le_of_ble_eq_true rfl)) dX3_waitForTruth_17 ⟨Nat.le_of_ble_eq_true rfl, Nat.le_of_ble_eq_true rfl⟩) (fun _ h => h) hS rfl (fun locs hS => ?_)
      refine iv_eq (wouldIn st r i) (q3.symm) ?_
      refine lv_iload_n hx hb dX3_waitForTruth_20 rfl (lv_lk hl rfl) ?_
      refine iv_icmp_eq (tgt := 30) hx hb dX3_waitForTruth_21 (by decide) (by omega) (by omega) (fun c_21 => ?_) (fun c_21 => ?_)
      · refine lv_iload_n hx hb dX3_waitForTruth_30 rfl (lv_lk hl rfl) ?_
        refine iv_eq ((waitF 100 st r 0 : Int)) (by rw [← he9, waitF_e c_21]) ?_
        exact W.iret hx hb hrt (fun t ht hW => ⟨rfl, ht⟩) hS.2.2 dX3_waitForTruth_31 hlocks
      · refine iv_iinc (k := 3) hx hb dX3_waitForTruth_24 hl rfl (((i + 1 : Nat) : Int)) (by omega) (by decide) [(3, .int (I _)), (0, .ref _), (1, .int (I _)), (2, .int (I _))] rfl (fun ls hl => ?_)
        refine lv_goto (tgt := 8) hx hb dX3_waitForTruth_27 (by decide) ?_
        exact ih (i + 1) (by omega) (by rw [← he9, waitF_s c_21]) locs ls hS (lv_sub hl [1, 2, 3, 0] rfl)
  exact LOOP8 99 0 (by omega) rfl _ _ hS (lv_sub hl [2, 3, 1, 0] rfl)
