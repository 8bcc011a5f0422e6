/-! the class: constructors; written by cls13.py -/
set_option maxHeartbeats 4000000 in
set_option maxRecDepth 100000 in
theorem m_X0_init (l : Launch) (E : Env3) (a : Nat) : Met l yX0_init (Cond.code yX0_init cX0_init 1 none :: ALL) ({ frames := 1, cells := 1, slots := 6, locals := 20 }) (pR [.ref a] E [(a, .inr (0, [(.int (I 0)), (.int (I 0)), (.int (I 0)), (.int (I 0)), (.int (I 0)), .null]))]) (qN none E [(a, .inr (0, [(.int (I 0)), (.int (I 0)), (.int (I 0)), (.int (I 0)), (.int (I 0)), .null]))] (fun (g : {g : Nat → Nat // g 0 = a}) => accW E (g.1 0) (g.1 1) 0 0 0 0 0 (fun _ => 0))) 1 6 (adIn [(a, .inr (0, [(.int (I 0)), (.int (I 0)), (.int (I 0)), (.int (I 0)), (.int (I 0)), .null]))]) := by
  refine mk_met (by decide) rfl (Nat.le_of_ble_eq_true rfl) ?_
  intro p e s m args below meth c hx hb hrt hml hts hown hlocks hnm hP hK ls hl
  have hown : s.vm.findClass RX0 = some m.cls := hown
  have hl : lv_has ls 1 [(0, .ref a)] := hl
  have hD : va_D (fun q => adIn [(a, .inr (0, [(.int (I 0)), (.int (I 0)), (.int (I 0)), (.int (I 0)), (.int (I 0)), .null]))] q ∨ s.heap.size ≤ q) [(a, .inr (0, [(.int (I 0)), (.int (I 0)), (.int (I 0)), (.int (I 0)), (.int (I 0)), .null]))] := va_D.weaken (D_1) (fun _ _ _ h9 => Or.inl h9)
  have hS : va_S (fun q => adIn [(a, .inr (0, [(.int (I 0)), (.int (I 0)), (.int (I 0)), (.int (I 0)), (.int (I 0)), .null]))] q ∨ s.heap.size ≤ q) s.heap s.heap [] := va_S.rf
  refine lv_aload_n hx hb dX0_init_0 rfl (lv_lk hl rfl) ?_
  refine W.objInit hx hb hown (hts _ ml_X0_3) (hts _ im_obj) (hts _ cd_obj) rfl (hl.1.trans hml.symm) rfl dX0_init_1 (Nat.le_of_ble_eq_true rfl) (Nat.le_of_ble_eq_true rfl) ?_
  refine lv_aload_n hx hb dX0_init_4 rfl (lv_lk hl rfl) ?_
  refine iv_bipush hx hb dX0_init_5 (by decide +kernel) ?_
  refine iv_newa hx hb (hts _ ac_int) hK hP hD hS (fun _ h9 => Or.inr h9) (6) (by omega) (by omega) (Nat.le_of_ble_eq_true rfl) (Nat.le_of_ble_eq_true rfl) dX0_init_7 (fun q1 H hP hD hS => ?_)
  have hP : va_P E.1 vwCl [(a, .inr (0, [(.int (I 0)), (.int (I 0)), (.int (I 0)), (.int (I 0)), (.int (I 0)), .null])), (q1, iA E 6 (fun _ => 0))] H := hP
  have hD : va_D (fun q => adIn [(a, .inr (0, [(.int (I 0)), (.int (I 0)), (.int (I 0)), (.int (I 0)), (.int (I 0)), .null]))] q ∨ s.heap.size ≤ q) [(a, .inr (0, [(.int (I 0)), (.int (I 0)), (.int (I 0)), (.int (I 0)), (.int (I 0)), .null])), (q1, iA E 6 (fun _ => 0))] := hD
  refine va_putF (ci := 0) (ty := .array .int) hx hb hts inX0 tyX0 tyX0_ok nmX0 hown hK.1 hP hD hS 0 rfl rfl 5 (by decide) (hts _ fl_X0_9) (fun _ h9 => h9) rfl hnm rfl (by decide +kernel) rfl rfl (Nat.le_of_ble_eq_true rfl) dX0_init_9 (fun H locs hP hD hS => ?_)
  have hP : va_P E.1 vwCl [(a, .inr (0, [(.int (I 0)), (.int (I 0)), (.int (I 0)), (.int (I 0)), (.int (I 0)), (.ref q1)])), (q1, iA E 6 (fun _ => 0))] H := hP
  have hD : va_D (fun q => adIn [(a, .inr (0, [(.int (I 0)), (.int (I 0)), (.int (I 0)), (.int (I 0)), (.int (I 0)), .null]))] q ∨ s.heap.size ≤ q) [(a, .inr (0, [(.int (I 0)), (.int (I 0)), (.int (I 0)), (.int (I 0)), (.int (I 0)), (.ref q1)])), (q1, iA E 6 (fun _ => 0))] := hD
  refine W_old ?_
  exact W.vret hx hb hrt (fun t ht hW => ⟨rfl, ⟨⟨(fun i => [a, q1].getD i 0), rfl⟩, by rw [ht]; exact hP, dm hD rfl⟩, new_F hS ht⟩) (old_in hS) dX0_init_12 hlocks
