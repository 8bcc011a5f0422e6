/-! the class: constructors; written by cls13.py -/
def pf9 (j : Nat) : Int := if j = 0 then -1 else (((j - 1) / 2 : Nat) : Int)
theorem lw9_0 (f : Nat → Int) : (fun _ => (0 : Int)) = (fun j => if j < 0 then f j else 0) := by
  funext j
  rw [if_neg (Nat.not_lt_zero j)]
theorem lw9_s {f : Nat → Int} {i : Nat} {v : Int} (hv : f i = v) : up (fun j => if j < i then f j else 0) i v = fun j => if j < i + 1 then f j else 0 := by
  funext j
  unfold up
  by_cases h : j = i
  · subst h; rw [if_pos rfl, if_pos (Nat.lt_succ_self j), hv]
  · rw [if_neg h]
    dsimp only
    by_cases h2 : j < i
    · rw [if_pos h2, if_pos (by omega)]
    · rw [if_neg h2, if_neg (by omega)]
set_option maxHeartbeats 4000000 in
set_option maxRecDepth 100000 in
theorem m_X0_init (l : Launch) (E : Env3) (a : Nat) : Met l yX0_init (Cond.code yX0_init cX0_init 1 none :: ALL) ({ frames := 1, cells := 1, slots := 6, locals := 20 }) (pR [.ref a] E [(a, .inr (0, [(.int (I 0)), (.int (I 0)), (.int (I 0)), (.int (I 0)), (.int (I 0)), .null]))]) (qN none E [(a, .inr (0, [(.int (I 0)), (.int (I 0)), (.int (I 0)), (.int (I 0)), (.int (I 0)), .null]))] (fun (g : {g : Nat → Nat // g 0 = a}) => accW E (g.1 0) (g.1 1) 0 0 0 0 0 (fun _ => 0))) 1 6 (adIn [(a, .inr (0, [(.int (I 0)), (.int (I 0)), (.int (I 0)), (.int (I 0)), (.int (I 0)), .null]))]) := by
  refine mk_met (by decide) rfl (Nat.le_of_ble_eq_true rfl) ?_
  intro p e s m args below meth c hx hb hrt hml hts hown hlocks hnm hP hK ls hl
  have hown : s.vm.findClass RX0 = some m.cls := hown
  have hl : lv_has ls 1 [(0, .ref a)] := hl
  have hD : va_D (fun q => adIn [(a, .inr (0, [(.int (I 0)), (.int (I 0)), (.int (I 0)), (.int (I 0)), (.int (I 0)), .null]))] q ∨ s.heap.size ≤ q) [(a, .inr (0, [(.int (I 0)), (.int (I 0)), (.int (I 0)), (.int (I 0)), (.int (I 0)), .null]))] := va_D.weaken (D_1) (fun _ _ _ h9 => Or.inl h9)
  have hS : va_S (fun q => adIn [(a, .inr (0, [(.int (I 0)), (.int (I 0)), (.int (I 0)), (.int (I 0)), (.int (I 0)), .null]))] q ∨ s.heap.size ≤ q) s.heap s.heap [] := va_S.rf
  refine lv_aload_n hx hb dX0_init_0 rfl (lv_lk hl rfl) ?_
  refine W.objInit hx hb hown (hts _ ml_X0_3) (hts _ im_obj) (hts _ cd_obj) rfl (hl.1.trans hml.symm) rfl dX0_init_1 (Nat.le_of_ble_eq_true rfl) (Nat.le_of_ble_eq_true rfl) ?_
  refine lv_aload_n hx hb dX0_init_4 rfl (lv_lk hl rfl) ?_
  refine iv_bipush hx hb dX0_init_5 (by decide +kernel) ?_
  refine iv_newa hx hb (hts _ ac_int) hK hP hD hS (fun _ h9 => Or.inr h9) (6) (by omega) (by omega) (Nat.le_of_ble_eq_true rfl) (Nat.le_of_ble_eq_true rfl) dX0_init_7 (fun q1 H hP hD hS => ?_)
  have hP : va_P E.1 vwCl [(a, .inr (0, [(.int (I 0)), (.int (I 0)), (.int (I 0)), (.int (I 0)), (.int (I 0)), .null])), (q1, iA E 6 (fun _ => 0))] H := hP
  have hD : va_D (fun q => adIn [(a, .inr (0, [(.int (I 0)), (.int (I 0)), (.int (I 0)), (.int (I 0)), (.int (I 0)), .null]))] q ∨ s.heap.size ≤ q) [(a, .inr (0, [(.int (I 0)), (.int (I 0)), (.int (I 0)), (.int (I 0)), (.int (I 0)), .null])), (q1, iA E 6 (fun _ => 0))] := hD
  refine va_putF (ci := 0) (ty := .array .int) hx hb hts inX0 tyX0 tyX0_ok nmX0 hown hK.1 hP hD hS 0 rfl rfl 5 (by decide) (hts _ fl_X0_9) (fun _ h9 => h9) rfl hnm rfl (by decide +kernel) rfl rfl (Nat.le_of_ble_eq_true rfl) dX0_init_9 (fun H locs hP hD hS => ?_)
  have hP : va_P E.1 vwCl [(a, .inr (0, [(.int (I 0)), (.int (I 0)), (.int (I 0)), (.int (I 0)), (.int (I 0)), (.ref q1)])), (q1, iA E 6 (fun _ => 0))] H := hP
  have hD : va_D (fun q => adIn [(a, .inr (0, [(.int (I 0)), (.int (I 0)), (.int (I 0)), (.int (I 0)), (.int (I 0)), .null]))] q ∨ s.heap.size ≤ q) [(a, .inr (0, [(.int (I 0)), (.int (I 0)), (.int (I 0)), (.int (I 0)), (.int (I 0)), (.ref q1)])), (q1, iA E 6 (fun _ => 0))] := hD
  refine W_old ?_
  exact W.vret hx hb hrt (fun t ht hW => ⟨rfl, ⟨⟨(fun i => [a, q1].getD i 0), rfl⟩, by rw [ht]; exact hP, dm hD rfl⟩, new_F hS ht⟩) (old_in hS) dX0_init_12 hlocks
set_option maxHeartbeats 4000000 in
set_option maxRecDepth 100000 in
theorem m_X1_init (l : Launch) (E : Env3) (a : Nat) : Met l yX1_init (Cond.code yX1_init cX1_init 1 none :: ALL) ({ frames := 1, cells := 3, slots := 100, locals := 20 }) (pR [.ref a] E [(a, .inr (1, [.null, (.int (I 0)), .null, .null, (.int (I 0))]))]) (qN none E [(a, .inr (1, [.null, (.int (I 0)), .null, .null, (.int (I 0))]))] (fun (g : {g : Nat → Nat // g 0 = a}) => [(g.1 0, .inr (1, [.ref (g.1 1), .int (I 0), .ref (g.1 2), .ref (g.1 3), .int (I 0)])), (g.1 1, iA E 60 (fun _ => 0)), (g.1 2, iA E 20 (fun _ => 0)), (g.1 3, iA E 20 (fun _ => 0))])) 3 100 (adIn [(a, .inr (1, [.null, (.int (I 0)), .null, .null, (.int (I 0))]))]) := by
  refine mk_met (by decide) rfl (Nat.le_of_ble_eq_true rfl) ?_
  intro p e s m args below meth c hx hb hrt hml hts hown hlocks hnm hP hK ls hl
  have hown : s.vm.findClass RX1 = some m.cls := hown
  have hl : lv_has ls 1 [(0, .ref a)] := hl
  have hD : va_D (fun q => adIn [(a, .inr (1, [.null, (.int (I 0)), .null, .null, (.int (I 0))]))] q ∨ s.heap.size ≤ q) [(a, .inr (1, [.null, (.int (I 0)), .null, .null, (.int (I 0))]))] := va_D.weaken (D_1) (fun _ _ _ h9 => Or.inl h9)
  have hS : va_S (fun q => adIn [(a, .inr (1, [.null, (.int (I 0)), .null, .null, (.int (I 0))]))] q ∨ s.heap.size ≤ q) s.heap s.heap [] := va_S.rf
  refine lv_aload_n hx hb dX1_init_0 rfl (lv_lk hl rfl) ?_
  refine W.objInit hx hb hown (hts _ ml_X1_3) (hts _ im_obj) (hts _ cd_obj) rfl (hl.1.trans hml.symm) rfl dX1_init_1 (Nat.le_of_ble_eq_true rfl) (Nat.le_of_ble_eq_true rfl) ?_
  refine lv_aload_n hx hb dX1_init_4 rfl (lv_lk hl rfl) ?_
  refine iv_bipush hx hb dX1_init_5 (by decide +kernel) ?_
  refine iv_newa hx hb (hts _ ac_int) hK hP hD hS (fun _ h9 => Or.inr h9) (60) (by omega) (by omega) (Nat.le_of_ble_eq_true rfl) (Nat.le_of_ble_eq_true rfl) dX1_init_7 (fun q1 H hP hD hS => ?_)
  have hP : va_P E.1 vwCl [(a, .inr (1, [.null, (.int (I 0)), .null, .null, (.int (I 0))])), (q1, iA E 60 (fun _ => 0))] H := hP
  have hD : va_D (fun q => adIn [(a, .inr (1, [.null, (.int (I 0)), .null, .null, (.int (I 0))]))] q ∨ s.heap.size ≤ q) [(a, .inr (1, [.null, (.int (I 0)), .null, .null, (.int (I 0))])), (q1, iA E 60 (fun _ => 0))] := hD
  refine va_putF (ci := 1) (ty := .array .int) hx hb hts inX1 tyX1 tyX1_ok nmX1 hown hK.1 hP hD hS 0 rfl rfl 0 (by decide) (hts _ fl_X1_9) (fun _ h9 => h9) rfl hnm rfl (by decide +kernel) rfl rfl (Nat.le_of_ble_eq_true rfl) dX1_init_9 (fun H locs hP hD hS => ?_)
  have hP : va_P E.1 vwCl [(a, .inr (1, [(.ref q1), (.int (I 0)), .null, .null, (.int (I 0))])), (q1, iA E 60 (fun _ => 0))] H := hP
  have hD : va_D (fun q => adIn [(a, .inr (1, [.null, (.int (I 0)), .null, .null, (.int (I 0))]))] q ∨ s.heap.size ≤ q) [(a, .inr (1, [(.ref q1), (.int (I 0)), .null, .null, (.int (I 0))])), (q1, iA E 60 (fun _ => 0))] := hD
  refine lv_aload_n hx hb dX1_init_12 rfl (lv_lk hl rfl) ?_
  refine iv_bipush hx hb dX1_init_13 (by decide +kernel) ?_
  refine iv_newa hx hb (hts _ ac_int) hK hP hD hS (fun _ h9 => Or.inr h9) (20) (by omega) (by omega) (Nat.le_of_ble_eq_true rfl) (Nat.le_of_ble_eq_true rfl) dX1_init_15 (fun q2 H hP hD hS => ?_)
  have hP : va_P E.1 vwCl [(a, .inr (1, [(.ref q1), (.int (I 0)), .null, .null, (.int (I 0))])), (q1, iA E 60 (fun _ => 0)), (q2, iA E 20 (fun _ => 0))] H := hP
  have hD : va_D (fun q => adIn [(a, .inr (1, [.null, (.int (I 0)), .null, .null, (.int (I 0))]))] q ∨ s.heap.size ≤ q) [(a, .inr (1, [(.ref q1), (.int (I 0)), .null, .null, (.int (I 0))])), (q1, iA E 60 (fun _ => 0)), (q2, iA E 20 (fun _ => 0))] := hD
  refine va_putF (ci := 1) (ty := .array .int) hx hb hts inX1 tyX1 tyX1_ok nmX1 hown hK.1 hP hD hS 0 rfl rfl 2 (by decide) (hts _ fl_X1_15) (fun _ h9 => h9) rfl hnm rfl (by decide +kernel) rfl rfl (Nat.le_of_ble_eq_true rfl) dX1_init_17 (fun H locs hP hD hS => ?_)
  have hP : va_P E.1 vwCl [(a, .inr (1, [(.ref q1), (.int (I 0)), (.ref q2), .null, (.int (I 0))])), (q1, iA E 60 (fun _ => 0)), (q2, iA E 20 (fun _ => 0))] H := hP
  have hD : va_D (fun q => adIn [(a, .inr (1, [.null, (.int (I 0)), .null, .null, (.int (I 0))]))] q ∨ s.heap.size ≤ q) [(a, .inr (1, [(.ref q1), (.int (I 0)), (.ref q2), .null, (.int (I 0))])), (q1, iA E 60 (fun _ => 0)), (q2, iA E 20 (fun _ => 0))] := hD
  refine lv_aload_n hx hb dX1_init_20 rfl (lv_lk hl rfl) ?_
  refine iv_bipush hx hb dX1_init_21 (by decide +kernel) ?_
  refine iv_newa hx hb (hts _ ac_int) hK hP hD hS (fun _ h9 => Or.inr h9) (20) (by omega) (by omega) (Nat.le_of_ble_eq_true rfl) (Nat.le_of_ble_eq_true rfl) dX1_init_23 (fun q3 H hP hD hS => ?_)
  have hP : va_P E.1 vwCl [(a, .inr (1, [(.ref q1), (.int (I 0)), (.ref q2), .null, (.int (I 0))])), (q1, iA E 60 (fun _ => 0)), (q2, iA E 20 (fun _ => 0)), (q3, iA E 20 (fun _ => 0))] H := hP
  have hD : va_D (fun q => adIn [(a, .inr (1, [.null, (.int (I 0)), .null, .null, (.int (I 0))]))] q ∨ s.heap.size ≤ q) [(a, .inr (1, [(.ref q1), (.int (I 0)), (.ref q2), .null, (.int (I 0))])), (q1, iA E 60 (fun _ => 0)), (q2, iA E 20 (fun _ => 0)), (q3, iA E 20 (fun _ => 0))] := hD
  refine va_putF (ci := 1) (ty := .array .int) hx hb hts inX1 tyX1 tyX1_ok nmX1 hown hK.1 hP hD hS 0 rfl rfl 3 (by decide) (hts _ fl_X1_18) (fun _ h9 => h9) rfl hnm rfl (by decide +kernel) rfl rfl (Nat.le_of_ble_eq_true rfl) dX1_init_25 (fun H locs hP hD hS => ?_)
  have hP : va_P E.1 vwCl [(a, .inr (1, [(.ref q1), (.int (I 0)), (.ref q2), (.ref q3), (.int (I 0))])), (q1, iA E 60 (fun _ => 0)), (q2, iA E 20 (fun _ => 0)), (q3, iA E 20 (fun _ => 0))] H := hP
  have hD : va_D (fun q => adIn [(a, .inr (1, [.null, (.int (I 0)), .null, .null, (.int (I 0))]))] q ∨ s.heap.size ≤ q) [(a, .inr (1, [(.ref q1), (.int (I 0)), (.ref q2), (.ref q3), (.int (I 0))])), (q1, iA E 60 (fun _ => 0)), (q2, iA E 20 (fun _ => 0)), (q3, iA E 20 (fun _ => 0))] := hD
  refine W_old ?_
  exact W.vret hx hb hrt (fun t ht hW => ⟨rfl, ⟨⟨(fun i => [a, q1, q2, q3].getD i 0), rfl⟩, by rw [ht]; exact hP, dm hD rfl⟩, new_F hS ht⟩) (old_in hS) dX1_init_28 hlocks
set_option maxHeartbeats 4000000 in
set_option maxRecDepth 100000 in
theorem m_X2_init (l : Launch) (E : Env3) (a : Nat) : Met l yX2_init (Cond.code yX2_init cX2_init 2 none :: ALL) ({ frames := 1, cells := 3, slots := 108, locals := 20 }) (pR [.ref a] E [(a, .inr (2, [.null, .null, .null]))]) (qN none E [(a, .inr (2, [.null, .null, .null]))] (fun (g : {g : Nat → Nat // g 0 = a}) => repW E (g.1 0) (g.1 1) (g.1 2) (g.1 3) (fun j => if j < 36 then 0 else 0) (fun j => if j < 36 then -1 else 0) (fun j => if j < 36 then 0 else 0))) 3 108 (adIn [(a, .inr (2, [.null, .null, .null]))]) := by
  refine mk_met (by decide) rfl (Nat.le_of_ble_eq_true rfl) ?_
  intro p e s m args below meth c hx hb hrt hml hts hown hlocks hnm hP hK ls hl
  have hown : s.vm.findClass RX2 = some m.cls := hown
  have hl : lv_has ls 2 [(0, .ref a)] := hl
  have hD : va_D (fun q => adIn [(a, .inr (2, [.null, .null, .null]))] q ∨ s.heap.size ≤ q) [(a, .inr (2, [.null, .null, .null]))] := va_D.weaken (D_1) (fun _ _ _ h9 => Or.inl h9)
  have hS : va_S (fun q => adIn [(a, .inr (2, [.null, .null, .null]))] q ∨ s.heap.size ≤ q) s.heap s.heap [] := va_S.rf
  refine lv_aload_n hx hb dX2_init_0 rfl (lv_lk hl rfl) ?_
  refine W.objInit hx hb hown (hts _ ml_X2_3) (hts _ im_obj) (hts _ cd_obj) rfl (hl.1.trans hml.symm) rfl dX2_init_1 (Nat.le_of_ble_eq_true rfl) (Nat.le_of_ble_eq_true rfl) ?_
  refine lv_aload_n hx hb dX2_init_4 rfl (lv_lk hl rfl) ?_
  refine iv_bipush hx hb dX2_init_5 (by decide +kernel) ?_
  refine iv_newa hx hb (hts _ ac_int) hK hP hD hS (fun _ h9 => Or.inr h9) (36) (by omega) (by omega) (Nat.le_of_ble_eq_true rfl) (Nat.le_of_ble_eq_true rfl) dX2_init_7 (fun q1 H hP hD hS => ?_)
  have hP : va_P E.1 vwCl [(a, .inr (2, [.null, .null, .null])), (q1, iA E 36 (fun _ => 0))] H := hP
  have hD : va_D (fun q => adIn [(a, .inr (2, [.null, .null, .null]))] q ∨ s.heap.size ≤ q) [(a, .inr (2, [.null, .null, .null])), (q1, iA E 36 (fun _ => 0))] := hD
  refine va_putF (ci := 2) (ty := .array .int) hx hb hts inX2 tyX2 tyX2_ok nmX2 hown hK.1 hP hD hS 0 rfl rfl 0 (by decide) (hts _ fl_X2_9) (fun _ h9 => h9) rfl hnm rfl (by decide +kernel) rfl rfl (Nat.le_of_ble_eq_true rfl) dX2_init_9 (fun H locs hP hD hS => ?_)
  have hP : va_P E.1 vwCl [(a, .inr (2, [(.ref q1), .null, .null])), (q1, iA E 36 (fun _ => 0))] H := hP
  have hD : va_D (fun q => adIn [(a, .inr (2, [.null, .null, .null]))] q ∨ s.heap.size ≤ q) [(a, .inr (2, [(.ref q1), .null, .null])), (q1, iA E 36 (fun _ => 0))] := hD
  refine lv_aload_n hx hb dX2_init_12 rfl (lv_lk hl rfl) ?_
  refine iv_bipush hx hb dX2_init_13 (by decide +kernel) ?_
  refine iv_newa hx hb (hts _ ac_int) hK hP hD hS (fun _ h9 => Or.inr h9) (36) (by omega) (by omega) (Nat.le_of_ble_eq_true rfl) (Nat.le_of_ble_eq_true rfl) dX2_init_15 (fun q2 H hP hD hS => ?_)
  have hP : va_P E.1 vwCl [(a, .inr (2, [(.ref q1), .null, .null])), (q1, iA E 36 (fun _ => 0)), (q2, iA E 36 (fun _ => 0))] H := hP
  have hD : va_D (fun q => adIn [(a, .inr (2, [.null, .null, .null]))] q ∨ s.heap.size ≤ q) [(a, .inr (2, [(.ref q1), .null, .null])), (q1, iA E 36 (fun _ => 0)), (q2, iA E 36 (fun _ => 0))] := hD
  refine va_putF (ci := 2) (ty := .array .int) hx hb hts inX2 tyX2 tyX2_ok nmX2 hown hK.1 hP hD hS 0 rfl rfl 1 (by decide) (hts _ fl_X2_15) (fun _ h9 => h9) rfl hnm rfl (by decide +kernel) rfl rfl (Nat.le_of_ble_eq_true rfl) dX2_init_17 (fun H locs hP hD hS => ?_)
  have hP : va_P E.1 vwCl [(a, .inr (2, [(.ref q1), (.ref q2), .null])), (q1, iA E 36 (fun _ => 0)), (q2, iA E 36 (fun _ => 0))] H := hP
  have hD : va_D (fun q => adIn [(a, .inr (2, [.null, .null, .null]))] q ∨ s.heap.size ≤ q) [(a, .inr (2, [(.ref q1), (.ref q2), .null])), (q1, iA E 36 (fun _ => 0)), (q2, iA E 36 (fun _ => 0))] := hD
  refine lv_aload_n hx hb dX2_init_20 rfl (lv_lk hl rfl) ?_
  refine iv_bipush hx hb dX2_init_21 (by decide +kernel) ?_
  refine iv_newa hx hb (hts _ ac_int) hK hP hD hS (fun _ h9 => Or.inr h9) (36) (by omega) (by omega) (Nat.le_of_ble_eq_true rfl) (Nat.le_of_ble_eq_true rfl) dX2_init_23 (fun q3 H hP hD hS => ?_)
  have hP : va_P E.1 vwCl [(a, .inr (2, [(.ref q1), (.ref q2), .null])), (q1, iA E 36 (fun _ => 0)), (q2, iA E 36 (fun _ => 0)), (q3, iA E 36 (fun _ => 0))] H := hP
  have hD : va_D (fun q => adIn [(a, .inr (2, [.null, .null, .null]))] q ∨ s.heap.size ≤ q) [(a, .inr (2, [(.ref q1), (.ref q2), .null])), (q1, iA E 36 (fun _ => 0)), (q2, iA E 36 (fun _ => 0)), (q3, iA E 36 (fun _ => 0))] := hD
  refine va_putF (ci := 2) (ty := .array .int) hx hb hts inX2 tyX2 tyX2_ok nmX2 hown hK.1 hP hD hS 0 rfl rfl 2 (by decide) (hts _ fl_X2_18) (fun _ h9 => h9) rfl hnm rfl (by decide +kernel) rfl rfl (Nat.le_of_ble_eq_true rfl) dX2_init_25 (fun H locs hP hD hS => ?_)
  have hP : va_P E.1 vwCl [(a, .inr (2, [(.ref q1), (.ref q2), (.ref q3)])), (q1, iA E 36 (fun _ => 0)), (q2, iA E 36 (fun _ => 0)), (q3, iA E 36 (fun _ => 0))] H := hP
  have hD : va_D (fun q => adIn [(a, .inr (2, [.null, .null, .null]))] q ∨ s.heap.size ≤ q) [(a, .inr (2, [(.ref q1), (.ref q2), (.ref q3)])), (q1, iA E 36 (fun _ => 0)), (q2, iA E 36 (fun _ => 0)), (q3, iA E 36 (fun _ => 0))] := hD
  refine iv_iconst hx hb dX2_init_28 ?_
  refine lv_istore_n (lv' := [(1, .int (I _)), (0, .ref _)]) hx hb dX2_init_29 rfl hl (by decide) rfl (fun ls hl => ?_)
  have LOOP30 : ∀ (n9 i : Nat), (i + n9 = 36) → ∀ (H : Heap) (locs : List Loc) (ls : Array Slot), va_P E.1 vwCl [(a, .inr (2, [.ref q1, .ref q2, .ref q3])), (q1, iA E 36 (fun j => if j < i then 0 else 0)), (q2, iA E 36 (fun j => if j < i then -1 else 0)), (q3, iA E 36 (fun j => if j < i then 0 else 0))] H → va_S (fun q => adIn [(a, .inr (2, [.null, .null, .null]))] q ∨ s.heap.size ≤ q) s.heap H locs → lv_has ls 2 [(0, .ref a), (1, .int (I (i : Int)))] → W p l e ({ frames := 1, cells := 3, slots := 108, locals := 20 }) s m args below meth c H locs 3 108 (MQ below (qN none E [(a, .inr (2, [.null, .null, .null]))] (fun (g : {g : Nat → Nat // g 0 = a}) => repW E (g.1 0) (g.1 1) (g.1 2) (g.1 3) (fun j => if j < 36 then 0 else 0) (fun j => if j < 36 then -1 else 0) (fun j => if j < 36 then 0 else 0))) args s 3 108 (adIn [(a, .inr (2, [.null, .null, .null]))])) (F0 m 30 ls []) := by
    intro n9
    induction n9 with
    | zero =>
      intro  i hi8 H locs ls hP hS hl
      obtain rfl : i = 36 := by omega
      refine lv_iload_n hx hb dX2_init_30 rfl (lv_lk hl rfl) ?_
      refine iv_bipush hx hb dX2_init_31 (by decide +kernel) ?_
      refine iv_icmp_ge (tgt := 63) hx hb dX2_init_33 (by decide) (by omega) (by omega) (fun c_33 => ?_) (fun c_33 => by exfalso; omega)
      refine W_old ?_
      exact W.vret hx hb hrt (fun t ht hW => ⟨rfl, ⟨⟨(fun i => [a, q1, q2, q3].getD i 0), rfl⟩, by rw [ht]; exact hP, dm hD rfl⟩, new_F hS ht⟩) (old_in hS) dX2_init_63 hlocks
    | succ n9 ih =>
      intro  i hi8 H locs ls hP hS hl
      refine lv_iload_n hx hb dX2_init_30 rfl (lv_lk hl rfl) ?_
      refine iv_bipush hx hb dX2_init_31 (by decide +kernel) ?_
      refine iv_icmp_ge (tgt := 63) hx hb dX2_init_33 (by decide) (by omega) (by omega) (fun c_33 => by exfalso; omega) (fun c_33 => ?_)
      refine lv_aload_n hx hb dX2_init_36 rfl (lv_lk hl rfl) ?_
      refine va_get (D := E.1) (ci := 2) hx hb hts inX2 hown hK.1 hP 0 rfl rfl 0 (by decide) (hts _ fl_X2_9) (fun _ h9 => h9) rfl dX2_init_37 ?_
      refine lv_iload_n hx hb dX2_init_40 rfl (lv_lk hl rfl) ?_
      refine iv_iconst hx hb dX2_init_41 ?_
      refine iv_iast hx hb hK hP (dm hD rfl) hS 1 rfl (i) (by omega) (by omega) dX2_init_42 [(a, .inr (2, [.ref q1, .ref q2, .ref q3])), (q1, iA E 36 (fun j => if j < (i + 1) then 0 else 0)), (q2, iA E 36 (fun j => if j < i then -1 else 0)), (q3, iA E 36 (fun j => if j < i then 0 else 0))] (by rw [lw9_s (f := fun j => 0) (v := 0) rfl]; rfl) (fun H locs hP hS => ?_)
      refine lv_aload_n hx hb dX2_init_43 rfl (lv_lk hl rfl) ?_
      refine va_get (D := E.1) (ci := 2) hx hb hts inX2 hown hK.1 hP 0 rfl rfl 1 (by decide) (hts _ fl_X2_15) (fun _ h9 => h9) rfl dX2_init_44 ?_
      refine lv_iload_n hx hb dX2_init_47 rfl (lv_lk hl rfl) ?_
      refine iv_iconst hx hb dX2_init_48 ?_
      refine iv_iast hx hb hK hP (dm hD rfl) hS 2 rfl (i) (by omega) (by omega) dX2_init_49 [(a, .inr (2, [.ref q1, .ref q2, .ref q3])), (q1, iA E 36 (fun j => if j < (i + 1) then 0 else 0)), (q2, iA E 36 (fun j => if j < (i + 1) then -1 else 0)), (q3, iA E 36 (fun j => if j < i then 0 else 0))] (by rw [lw9_s (f := fun j => -1) (v := -1) rfl]; rfl) (fun H locs hP hS => ?_)
      refine lv_aload_n hx hb dX2_init_50 rfl (lv_lk hl rfl) ?_
      refine va_get (D := E.1) (ci := 2) hx hb hts inX2 hown hK.1 hP 0 rfl rfl 2 (by decide) (hts _ fl_X2_18) (fun _ h9 => h9) rfl dX2_init_51 ?_
      refine lv_iload_n hx hb dX2_init_54 rfl (lv_lk hl rfl) ?_
      refine iv_iconst hx hb dX2_init_55 ?_
      refine iv_iast hx hb hK hP (dm hD rfl) hS 3 rfl (i) (by omega) (by omega) dX2_init_56 [(a, .inr (2, [.ref q1, .ref q2, .ref q3])), (q1, iA E 36 (fun j => if j < (i + 1) then 0 else 0)), (q2, iA E 36 (fun j => if j < (i + 1) then -1 else 0)), (q3, iA E 36 (fun j => if j < (i + 1) then 0 else 0))] (by rw [lw9_s (f := fun j => 0) (v := 0) rfl]; rfl) (fun H locs hP hS => ?_)
      refine iv_iinc (k := 1) hx hb dX2_init_57 hl rfl (((i + 1 : Nat) : Int)) (by omega) (by decide) [(1, .int (I _)), (0, .ref _)] rfl (fun ls hl => ?_)
      refine lv_goto (tgt := 30) hx hb dX2_init_60 (by decide) ?_
      exact ih (i + 1) (by omega) H locs ls hP hS (lv_sub hl [1, 0] rfl)
  exact LOOP30 36 0 (by omega) _ _ _ hP hS (lv_sub hl [1, 0] rfl)
set_option maxHeartbeats 4000000 in
set_option maxRecDepth 100000 in
theorem m_X4_init (l : Launch) (E : Env3) (a : Nat) : Met l yX4_init (Cond.code yX4_init cX4_init 2 none :: ALL) ({ frames := 1, cells := 3, slots := 18, locals := 20 }) (pR [.ref a] E [(a, .inr (4, [.null, .null, .null]))]) (qN none E [(a, .inr (4, [.null, .null, .null]))] (fun (g : {g : Nat → Nat // g 0 = a}) => [(g.1 0, .inr (4, [.ref (g.1 1), .ref (g.1 2), .ref (g.1 3)])), (g.1 1, iA E 6 (fun j => if j < 6 then pf9 j else 0)), (g.1 2, iA E 6 (fun j => if j < 6 then 20 else 0)), (g.1 3, iA E 6 (fun j => if j < 6 then 5 else 0))])) 3 18 (adIn [(a, .inr (4, [.null, .null, .null]))]) := by
  refine mk_met (by decide) rfl (Nat.le_of_ble_eq_true rfl) ?_
  intro p e s m args below meth c hx hb hrt hml hts hown hlocks hnm hP hK ls hl
  have hown : s.vm.findClass RX4 = some m.cls := hown
  have hl : lv_has ls 2 [(0, .ref a)] := hl
  have hD : va_D (fun q => adIn [(a, .inr (4, [.null, .null, .null]))] q ∨ s.heap.size ≤ q) [(a, .inr (4, [.null, .null, .null]))] := va_D.weaken (D_1) (fun _ _ _ h9 => Or.inl h9)
  have hS : va_S (fun q => adIn [(a, .inr (4, [.null, .null, .null]))] q ∨ s.heap.size ≤ q) s.heap s.heap [] := va_S.rf
  refine lv_aload_n hx hb dX4_init_0 rfl (lv_lk hl rfl) ?_
  refine W.objInit hx hb hown (hts _ ml_X4_3) (hts _ im_obj) (hts _ cd_obj) rfl (hl.1.trans hml.symm) rfl dX4_init_1 (Nat.le_of_ble_eq_true rfl) (Nat.le_of_ble_eq_true rfl) ?_
  refine lv_aload_n hx hb dX4_init_4 rfl (lv_lk hl rfl) ?_
  refine iv_bipush hx hb dX4_init_5 (by decide +kernel) ?_
  refine iv_newa hx hb (hts _ ac_int) hK hP hD hS (fun _ h9 => Or.inr h9) (6) (by omega) (by omega) (Nat.le_of_ble_eq_true rfl) (Nat.le_of_ble_eq_true rfl) dX4_init_7 (fun q1 H hP hD hS => ?_)
  have hP : va_P E.1 vwCl [(a, .inr (4, [.null, .null, .null])), (q1, iA E 6 (fun _ => 0))] H := hP
  have hD : va_D (fun q => adIn [(a, .inr (4, [.null, .null, .null]))] q ∨ s.heap.size ≤ q) [(a, .inr (4, [.null, .null, .null])), (q1, iA E 6 (fun _ => 0))] := hD
  refine va_putF (ci := 4) (ty := .array .int) hx hb hts inX4 tyX4 tyX4_ok nmX4 hown hK.1 hP hD hS 0 rfl rfl 0 (by decide) (hts _ fl_X4_9) (fun _ h9 => h9) rfl hnm rfl (by decide +kernel) rfl rfl (Nat.le_of_ble_eq_true rfl) dX4_init_9 (fun H locs hP hD hS => ?_)
  have hP : va_P E.1 vwCl [(a, .inr (4, [(.ref q1), .null, .null])), (q1, iA E 6 (fun _ => 0))] H := hP
  have hD : va_D (fun q => adIn [(a, .inr (4, [.null, .null, .null]))] q ∨ s.heap.size ≤ q) [(a, .inr (4, [(.ref q1), .null, .null])), (q1, iA E 6 (fun _ => 0))] := hD
  refine lv_aload_n hx hb dX4_init_12 rfl (lv_lk hl rfl) ?_
  refine iv_bipush hx hb dX4_init_13 (by decide +kernel) ?_
  refine iv_newa hx hb (hts _ ac_int) hK hP hD hS (fun _ h9 => Or.inr h9) (6) (by omega) (by omega) (Nat.le_of_ble_eq_true rfl) (Nat.le_of_ble_eq_true rfl) dX4_init_15 (fun q2 H hP hD hS => ?_)
  have hP : va_P E.1 vwCl [(a, .inr (4, [(.ref q1), .null, .null])), (q1, iA E 6 (fun _ => 0)), (q2, iA E 6 (fun _ => 0))] H := hP
  have hD : va_D (fun q => adIn [(a, .inr (4, [.null, .null, .null]))] q ∨ s.heap.size ≤ q) [(a, .inr (4, [(.ref q1), .null, .null])), (q1, iA E 6 (fun _ => 0)), (q2, iA E 6 (fun _ => 0))] := hD
  refine va_putF (ci := 4) (ty := .array .int) hx hb hts inX4 tyX4 tyX4_ok nmX4 hown hK.1 hP hD hS 0 rfl rfl 1 (by decide) (hts _ fl_X4_15) (fun _ h9 => h9) rfl hnm rfl (by decide +kernel) rfl rfl (Nat.le_of_ble_eq_true rfl) dX4_init_17 (fun H locs hP hD hS => ?_)
  have hP : va_P E.1 vwCl [(a, .inr (4, [(.ref q1), (.ref q2), .null])), (q1, iA E 6 (fun _ => 0)), (q2, iA E 6 (fun _ => 0))] H := hP
  have hD : va_D (fun q => adIn [(a, .inr (4, [.null, .null, .null]))] q ∨ s.heap.size ≤ q) [(a, .inr (4, [(.ref q1), (.ref q2), .null])), (q1, iA E 6 (fun _ => 0)), (q2, iA E 6 (fun _ => 0))] := hD
  refine lv_aload_n hx hb dX4_init_20 rfl (lv_lk hl rfl) ?_
  refine iv_bipush hx hb dX4_init_21 (by decide +kernel) ?_
  refine iv_newa hx hb (hts _ ac_int) hK hP hD hS (fun _ h9 => Or.inr h9) (6) (by omega) (by omega) (Nat.le_of_ble_eq_true rfl) (Nat.le_of_ble_eq_true rfl) dX4_init_23 (fun q3 H hP hD hS => ?_)
  have hP : va_P E.1 vwCl [(a, .inr (4, [(.ref q1), (.ref q2), .null])), (q1, iA E 6 (fun _ => 0)), (q2, iA E 6 (fun _ => 0)), (q3, iA E 6 (fun _ => 0))] H := hP
  have hD : va_D (fun q => adIn [(a, .inr (4, [.null, .null, .null]))] q ∨ s.heap.size ≤ q) [(a, .inr (4, [(.ref q1), (.ref q2), .null])), (q1, iA E 6 (fun _ => 0)), (q2, iA E 6 (fun _ => 0)), (q3, iA E 6 (fun _ => 0))] := hD
  refine va_putF (ci := 4) (ty := .array .int) hx hb hts inX4 tyX4 tyX4_ok nmX4 hown hK.1 hP hD hS 0 rfl rfl 2 (by decide) (hts _ fl_X4_18) (fun _ h9 => h9) rfl hnm rfl (by decide +kernel) rfl rfl (Nat.le_of_ble_eq_true rfl) dX4_init_25 (fun H locs hP hD hS => ?_)
  have hP : va_P E.1 vwCl [(a, .inr (4, [(.ref q1), (.ref q2), (.ref q3)])), (q1, iA E 6 (fun _ => 0)), (q2, iA E 6 (fun _ => 0)), (q3, iA E 6 (fun _ => 0))] H := hP
  have hD : va_D (fun q => adIn [(a, .inr (4, [.null, .null, .null]))] q ∨ s.heap.size ≤ q) [(a, .inr (4, [(.ref q1), (.ref q2), (.ref q3)])), (q1, iA E 6 (fun _ => 0)), (q2, iA E 6 (fun _ => 0)), (q3, iA E 6 (fun _ => 0))] := hD
  refine iv_iconst hx hb dX4_init_28 ?_
  refine lv_istore_n (lv' := [(1, .int (I _)), (0, .ref _)]) hx hb dX4_init_29 rfl hl (by decide) rfl (fun ls hl => ?_)
  have LOOP30 : ∀ (n9 i : Nat), (i + n9 = 6) → ∀ (H : Heap) (locs : List Loc) (ls : Array Slot), va_P E.1 vwCl [(a, .inr (4, [.ref q1, .ref q2, .ref q3])), (q1, iA E 6 (fun j => if j < i then pf9 j else 0)), (q2, iA E 6 (fun j => if j < i then 20 else 0)), (q3, iA E 6 (fun j => if j < i then 5 else 0))] H → va_S (fun q => adIn [(a, .inr (4, [.null, .null, .null]))] q ∨ s.heap.size ≤ q) s.heap H locs → lv_has ls 2 [(0, .ref a), (1, .int (I (i : Int)))] → W p l e ({ frames := 1, cells := 3, slots := 18, locals := 20 }) s m args below meth c H locs 3 18 (MQ below (qN none E [(a, .inr (4, [.null, .null, .null]))] (fun (g : {g : Nat → Nat // g 0 = a}) => [(g.1 0, .inr (4, [.ref (g.1 1), .ref (g.1 2), .ref (g.1 3)])), (g.1 1, iA E 6 (fun j => if j < 6 then pf9 j else 0)), (g.1 2, iA E 6 (fun j => if j < 6 then 20 else 0)), (g.1 3, iA E 6 (fun j => if j < 6 then 5 else 0))])) args s 3 18 (adIn [(a, .inr (4, [.null, .null, .null]))])) (F0 m 30 ls []) := by
    intro n9
    induction n9 with
    | zero =>
      intro  i hi8 H locs ls hP hS hl
      obtain rfl : i = 6 := by omega
      refine lv_iload_n hx hb dX4_init_30 rfl (lv_lk hl rfl) ?_
      refine iv_bipush hx hb dX4_init_31 (by decide +kernel) ?_
      refine iv_icmp_ge (tgt := 76) hx hb dX4_init_33 (by decide) (by omega) (by omega) (fun c_33 => ?_) (fun c_33 => by exfalso; omega)
      refine W_old ?_
      exact W.vret hx hb hrt (fun t ht hW => ⟨rfl, ⟨⟨(fun i => [a, q1, q2, q3].getD i 0), rfl⟩, by rw [ht]; exact hP, dm hD rfl⟩, new_F hS ht⟩) (old_in hS) dX4_init_76 hlocks
    | succ n9 ih =>
      intro  i hi8 H locs ls hP hS hl
      refine lv_iload_n hx hb dX4_init_30 rfl (lv_lk hl rfl) ?_
      refine iv_bipush hx hb dX4_init_31 (by decide +kernel) ?_
      refine iv_icmp_ge (tgt := 76) hx hb dX4_init_33 (by decide) (by omega) (by omega) (fun c_33 => by exfalso; omega) (fun c_33 => ?_)
      refine lv_aload_n hx hb dX4_init_36 rfl (lv_lk hl rfl) ?_
      refine va_get (D := E.1) (ci := 4) hx hb hts inX4 hown hK.1 hP 0 rfl rfl 0 (by decide) (hts _ fl_X4_9) (fun _ h9 => h9) rfl dX4_init_37 ?_
      refine lv_iload_n hx hb dX4_init_40 rfl (lv_lk hl rfl) ?_
      refine lv_iload_n hx hb dX4_init_41 rfl (lv_lk hl rfl) ?_
      refine iv_if_ne (tgt := 49) hx hb dX4_init_42 (by decide) (by omega) (fun c_42 => ?_) (fun c_42 => ?_)
      · refine lv_iload_n hx hb dX4_init_49 rfl (lv_lk hl rfl) ?_
        refine iv_iconst hx hb dX4_init_50 ?_
        refine iv_isub hx hb dX4_init_51 ?_
        refine iv_iconst hx hb dX4_init_52 ?_
        refine iv_idiv hx hb dX4_init_53 ((((i - 1) / 2 : Nat) : Int)) (by rw [show ((i : Int) - 1) = ((i - 1 : Nat) : Int) by omega]; exact I_div (x := i - 1) (y := 2) (by omega) (by omega)) (by omega) ?_
        refine iv_eq (pf9 i) (by unfold pf9; rw [if_neg (by omega)]) ?_
        refine iv_iast hx hb hK hP (dm hD rfl) hS 1 rfl (i) (by omega) (by omega) dX4_init_54 [(a, .inr (4, [.ref q1, .ref q2, .ref q3])), (q1, iA E 6 (fun j => if j < (i + 1) then pf9 j else 0)), (q2, iA E 6 (fun j => if j < i then 20 else 0)), (q3, iA E 6 (fun j => if j < i then 5 else 0))] (by rw [lw9_s (f := fun j => pf9 j) (v := pf9 i) rfl]; rfl) (fun H locs hP hS => ?_)
        refine lv_aload_n hx hb dX4_init_55 rfl (lv_lk hl rfl) ?_
        refine va_get (D := E.1) (ci := 4) hx hb hts inX4 hown hK.1 hP 0 rfl rfl 1 (by decide) (hts _ fl_X4_15) (fun _ h9 => h9) rfl dX4_init_56 ?_
        refine lv_iload_n hx hb dX4_init_59 rfl (lv_lk hl rfl) ?_
        refine iv_bipush hx hb dX4_init_60 (by decide +kernel) ?_
        refine iv_iast hx hb hK hP (dm hD rfl) hS 2 rfl (i) (by omega) (by omega) dX4_init_62 [(a, .inr (4, [.ref q1, .ref q2, .ref q3])), (q1, iA E 6 (fun j => if j < (i + 1) then pf9 j else 0)), (q2, iA E 6 (fun j => if j < (i + 1) then 20 else 0)), (q3, iA E 6 (fun j => if j < i then 5 else 0))] (by rw [lw9_s (f := fun j => 20) (v := 20) rfl]; rfl) (fun H locs hP hS => ?_)
        refine lv_aload_n hx hb dX4_init_63 rfl (lv_lk hl rfl) ?_
        refine va_get (D := E.1) (ci := 4) hx hb hts inX4 hown hK.1 hP 0 rfl rfl 2 (by decide) (hts _ fl_X4_18) (fun _ h9 => h9) rfl dX4_init_64 ?_
        refine lv_iload_n hx hb dX4_init_67 rfl (lv_lk hl rfl) ?_
        refine iv_iconst hx hb dX4_init_68 ?_
        refine iv_iast hx hb hK hP (dm hD rfl) hS 3 rfl (i) (by omega) (by omega) dX4_init_69 [(a, .inr (4, [.ref q1, .ref q2, .ref q3])), (q1, iA E 6 (fun j => if j < (i + 1) then pf9 j else 0)), (q2, iA E 6 (fun j => if j < (i + 1) then 20 else 0)), (q3, iA E 6 (fun j => if j < (i + 1) then 5 else 0))] (by rw [lw9_s (f := fun j => 5) (v := 5) rfl]; rfl) (fun H locs hP hS => ?_)
        refine iv_iinc (k := 1) hx hb dX4_init_70 hl rfl (((i + 1 : Nat) : Int)) (by omega) (by decide) [(1, .int (I _)), (0, .ref _)] rfl (fun ls hl => ?_)
        refine lv_goto (tgt := 30) hx hb dX4_init_73 (by decide) ?_
        exact ih (i + 1) (by omega) H locs ls hP hS (lv_sub hl [1, 0] rfl)
      · refine iv_iconst hx hb dX4_init_45 ?_
        refine lv_goto (tgt := 54) hx hb dX4_init_46 (by decide) ?_
        refine iv_eq (pf9 i) (by unfold pf9; rw [if_pos (by omega)]) ?_
        refine iv_iast hx hb hK hP (dm hD rfl) hS 1 rfl (i) (by omega) (by omega) dX4_init_54 [(a, .inr (4, [.ref q1, .ref q2, .ref q3])), (q1, iA E 6 (fun j => if j < (i + 1) then pf9 j else 0)), (q2, iA E 6 (fun j => if j < i then 20 else 0)), (q3, iA E 6 (fun j => if j < i then 5 else 0))] (by rw [lw9_s (f := fun j => pf9 j) (v := pf9 i) rfl]; rfl) (fun H locs hP hS => ?_)
        refine lv_aload_n hx hb dX4_init_55 rfl (lv_lk hl rfl) ?_
        refine va_get (D := E.1) (ci := 4) hx hb hts inX4 hown hK.1 hP 0 rfl rfl 1 (by decide) (hts _ fl_X4_15) (fun _ h9 => h9) rfl dX4_init_56 ?_
        refine lv_iload_n hx hb dX4_init_59 rfl (lv_lk hl rfl) ?_
        refine iv_bipush hx hb dX4_init_60 (by decide +kernel) ?_
        refine iv_iast hx hb hK hP (dm hD rfl) hS 2 rfl (i) (by omega) (by omega) dX4_init_62 [(a, .inr (4, [.ref q1, .ref q2, .ref q3])), (q1, iA E 6 (fun j => if j < (i + 1) then pf9 j else 0)), (q2, iA E 6 (fun j => if j < (i + 1) then 20 else 0)), (q3, iA E 6 (fun j => if j < i then 5 else 0))] (by rw [lw9_s (f := fun j => 20) (v := 20) rfl]; rfl) (fun H locs hP hS => ?_)
        refine lv_aload_n hx hb dX4_init_63 rfl (lv_lk hl rfl) ?_
        refine va_get (D := E.1) (ci := 4) hx hb hts inX4 hown hK.1 hP 0 rfl rfl 2 (by decide) (hts _ fl_X4_18) (fun _ h9 => h9) rfl dX4_init_64 ?_
        refine lv_iload_n hx hb dX4_init_67 rfl (lv_lk hl rfl) ?_
        refine iv_iconst hx hb dX4_init_68 ?_
        refine iv_iast hx hb hK hP (dm hD rfl) hS 3 rfl (i) (by omega) (by omega) dX4_init_69 [(a, .inr (4, [.ref q1, .ref q2, .ref q3])), (q1, iA E 6 (fun j => if j < (i + 1) then pf9 j else 0)), (q2, iA E 6 (fun j => if j < (i + 1) then 20 else 0)), (q3, iA E 6 (fun j => if j < (i + 1) then 5 else 0))] (by rw [lw9_s (f := fun j => 5) (v := 5) rfl]; rfl) (fun H locs hP hS => ?_)
        refine iv_iinc (k := 1) hx hb dX4_init_70 hl rfl (((i + 1 : Nat) : Int)) (by omega) (by decide) [(1, .int (I _)), (0, .ref _)] rfl (fun ls hl => ?_)
        refine lv_goto (tgt := 30) hx hb dX4_init_73 (by decide) ?_
        exact ih (i + 1) (by omega) H locs ls hP hS (lv_sub hl [1, 0] rfl)
  exact LOOP30 6 0 (by omega) _ _ _ hP hS (lv_sub hl [1, 0] rfl)
