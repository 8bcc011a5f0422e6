/-! the class: saving; written by cls9.py -/
abbrev s6W (E : Env3) (α β : Nat → Nat) (a b t9 x1 x2 x3 x4 x5 : Nat) (v1 v2 v3 v4 v5 : List Value) (L : List Nat) (n : Int) (st sx : S) : va_W := ([(a, .inr (5, [.ref (α 0), .ref b, .int (I n), .ref t9])), (b, rA E 6 (fun j => L[j]?))] ++ [(x1, .inr (3, v1)), (x2, .inr (3, v2)), (x3, .inr (3, v3)), (x4, .inr (3, v4)), (x5, .inr (3, v5))]) ++ (stW E β sx ++ stW E α st)
set_option maxHeartbeats 4000000 in
set_option maxRecDepth 100000 in
theorem m_X5_savedAt (l : Launch) (E : Env3) (a b nw t9 : Nat) (n : Int) (f9 : Nat → Option Nat) (k : Nat) (hk : k < 6) (x : Nat) (hf : f9 k = some x) : Met l yX5_savedAt (Cond.code yX5_savedAt cX5_savedAt 2 (some (.object "RiddlePost$State")) :: ALL) ({ frames := 0, cells := 0, slots := 0, locals := 0 }) (pR [.ref a, .int (I (k : Int))] E [(a, .inr (5, [.ref nw, .ref b, .int (I n), .ref t9])), (b, rA E 6 f9)]) (qS (some (.ref x))) 0 0 (fun _ => False) := by
  refine mk_met (by decide) rfl (Nat.le_of_ble_eq_true rfl) ?_
  intro p e s m args below meth c hx hb hrt hml hts hown hlocks hnm hP hK ls hl
  have hown : s.vm.findClass RX5 = some m.cls := hown
  have hl : lv_has ls 2 [(0, .ref a), (1, .int (I (k : Int)))] := hl
  have hS : va_S (fun _ => False) s.heap s.heap [] := va_S.rf
  refine lv_iload_n hx hb dX5_savedAt_0 rfl (lv_lk hl rfl) ?_
  refine iv_if_lt (tgt := 22) hx hb dX5_savedAt_1 (by decide) (by omega) (fun c_1 => by exfalso; omega) (fun c_1 => ?_)
  refine lv_iload_n hx hb dX5_savedAt_4 rfl (lv_lk hl rfl) ?_
  refine lv_aload_n hx hb dX5_savedAt_5 rfl (lv_lk hl rfl) ?_
  refine va_get (D := E.1) (ci := 5) hx hb hts inX5 hown hK.1 hP 0 rfl rfl 1 (by decide) (hts _ fl_X5_16) (fun _ h9 => h9) rfl dX5_savedAt_6 ?_
  refine va_alen hx hb hK.1 hP 1 1 rfl rfl (v := I 6) (I_ofNat _) dX5_savedAt_9 ?_
  refine iv_icmp_ge (tgt := 22) hx hb dX5_savedAt_10 (by decide) (by omega) (by omega) (fun c_10 => by exfalso; omega) (fun c_10 => ?_)
  refine lv_aload_n hx hb dX5_savedAt_13 rfl (lv_lk hl rfl) ?_
  refine va_get (D := E.1) (ci := 5) hx hb hts inX5 hown hK.1 hP 0 rfl rfl 1 (by decide) (hts _ fl_X5_16) (fun _ h9 => h9) rfl dX5_savedAt_14 ?_
  refine lv_iload_n hx hb dX5_savedAt_17 rfl (lv_lk hl rfl) ?_
  refine iq_ald hx hb hK hP 1 rfl (k) (by omega) (by omega) (x := x) (hf) dX5_savedAt_18 ?_
  refine lv_goto (tgt := 23) hx hb dX5_savedAt_19 (by decide) ?_
  exact W.aret hx hb hrt (Or.inl ⟨_, rfl⟩) (Or.inr ⟨_, rfl⟩) (fun t ht hW => ⟨rfl, ht⟩) hS.2.2 dX5_savedAt_23 hlocks
set_option maxHeartbeats 4000000 in
set_option maxRecDepth 100000 in
theorem m_X5_savedAt_no (l : Launch) (E : Env3) (a b nw t9 : Nat) (n : Int) (f9 : Nat → Option Nat) : Met l yX5_savedAt (Cond.code yX5_savedAt cX5_savedAt 2 (some (.object "RiddlePost$State")) :: ALL) ({ frames := 0, cells := 0, slots := 0, locals := 0 }) (pR [.ref a, .int (I (-1))] E [(a, .inr (5, [.ref nw, .ref b, .int (I n), .ref t9])), (b, rA E 6 f9)]) (qS (some .null)) 0 0 (fun _ => False) := by
  refine mk_met (by decide) rfl (Nat.le_of_ble_eq_true rfl) ?_
  intro p e s m args below meth c hx hb hrt hml hts hown hlocks hnm hP hK ls hl
  have hown : s.vm.findClass RX5 = some m.cls := hown
  have hl : lv_has ls 2 [(0, .ref a), (1, .int (I (-1)))] := hl
  have hS : va_S (fun _ => False) s.heap s.heap [] := va_S.rf
  refine lv_iload_n hx hb dX5_savedAt_0 rfl (lv_lk hl rfl) ?_
  refine iv_if_lt (tgt := 22) hx hb dX5_savedAt_1 (by decide) (by omega) (fun c_1 => ?_) (fun c_1 => by exfalso; omega)
  refine lv_null hx hb dX5_savedAt_22 ?_
  exact W.aret hx hb hrt (Or.inl ⟨_, rfl⟩) (Or.inl rfl) (fun t ht hW => ⟨rfl, ht⟩) hS.2.2 dX5_savedAt_23 hlocks
set_option maxHeartbeats 4000000 in
set_option maxRecDepth 100000 in
theorem m_X5_moveOldestToEnd (l : Launch) (E : Env3) (a b nw t9 x0 x1 x2 x3 x4 x5 : Nat) (n : Int) (v0 v1 v2 v3 v4 v5 : List Value) (hd : va_D (fun _ => True) [(a, .inr (5, [.ref nw, .ref b, .int (I n), .ref t9])), (b, rA E 6 (fun j => ([x0, x1, x2, x3, x4, x5])[j]?)), (x0, .inr (3, v0)), (x1, .inr (3, v1)), (x2, .inr (3, v2)), (x3, .inr (3, v3)), (x4, .inr (3, v4)), (x5, .inr (3, v5))]) : Met l yX5_moveOldestToEnd (Cond.code yX5_moveOldestToEnd cX5_moveOldestToEnd 3 none :: ALL) ({ frames := 0, cells := 0, slots := 0, locals := 0 }) (pR [.ref a] E [(a, .inr (5, [.ref nw, .ref b, .int (I n), .ref t9])), (b, rA E 6 (fun j => ([x0, x1, x2, x3, x4, x5])[j]?)), (x0, .inr (3, v0)), (x1, .inr (3, v1)), (x2, .inr (3, v2)), (x3, .inr (3, v3)), (x4, .inr (3, v4)), (x5, .inr (3, v5))]) (qW none E [(a, .inr (5, [.ref nw, .ref b, .int (I n), .ref t9])), (b, rA E 6 (fun j => ([x0, x1, x2, x3, x4, x5])[j]?)), (x0, .inr (3, v0)), (x1, .inr (3, v1)), (x2, .inr (3, v2)), (x3, .inr (3, v3)), (x4, .inr (3, v4)), (x5, .inr (3, v5))] [(a, .inr (5, [.ref nw, .ref b, .int (I n), .ref t9])), (b, rA E 6 (fun j => ([x1, x2, x3, x4, x5, x0])[j]?)), (x0, .inr (3, v0)), (x1, .inr (3, v1)), (x2, .inr (3, v2)), (x3, .inr (3, v3)), (x4, .inr (3, v4)), (x5, .inr (3, v5))]) 0 0 (adIn [(a, .inr (5, [.ref nw, .ref b, .int (I n), .ref t9])), (b, rA E 6 (fun j => ([x0, x1, x2, x3, x4, x5])[j]?)), (x0, .inr (3, v0)), (x1, .inr (3, v1)), (x2, .inr (3, v2)), (x3, .inr (3, v3)), (x4, .inr (3, v4)), (x5, .inr (3, v5))]) := by
  refine mk_met (by decide) rfl (Nat.le_of_ble_eq_true rfl) ?_
  intro p e s m args below meth c hx hb hrt hml hts hown hlocks hnm hP hK ls hl
  have hown : s.vm.findClass RX5 = some m.cls := hown
  have hl : lv_has ls 3 [(0, .ref a)] := hl
  have hD : va_D (adIn [(a, .inr (5, [.ref nw, .ref b, .int (I n), .ref t9])), (b, rA E 6 (fun j => ([x0, x1, x2, x3, x4, x5])[j]?)), (x0, .inr (3, v0)), (x1, .inr (3, v1)), (x2, .inr (3, v2)), (x3, .inr (3, v3)), (x4, .inr (3, v4)), (x5, .inr (3, v5))]) [(a, .inr (5, [.ref nw, .ref b, .int (I n), .ref t9])), (b, rA E 6 (fun j => ([x0, x1, x2, x3, x4, x5])[j]?)), (x0, .inr (3, v0)), (x1, .inr (3, v1)), (x2, .inr (3, v2)), (x3, .inr (3, v3)), (x4, .inr (3, v4)), (x5, .inr (3, v5))] := dself hd
  have hS : va_S (adIn [(a, .inr (5, [.ref nw, .ref b, .int (I n), .ref t9])), (b, rA E 6 (fun j => ([x0, x1, x2, x3, x4, x5])[j]?)), (x0, .inr (3, v0)), (x1, .inr (3, v1)), (x2, .inr (3, v2)), (x3, .inr (3, v3)), (x4, .inr (3, v4)), (x5, .inr (3, v5))]) s.heap s.heap [] := va_S.rf
  refine iv_iconst hx hb dX5_moveOldestToEnd_0 ?_
  refine lv_istore_n (lv' := [(1, .int (I _)), (0, .ref _)]) hx hb dX5_moveOldestToEnd_1 rfl hl (by decide) rfl (fun ls hl => ?_)
  refine lv_iload_n hx hb dX5_moveOldestToEnd_2 rfl (lv_lk hl rfl) ?_
  refine iv_iconst hx hb dX5_moveOldestToEnd_3 ?_
  refine iv_iadd hx hb dX5_moveOldestToEnd_4 ?_
  refine lv_aload_n hx hb dX5_moveOldestToEnd_5 rfl (lv_lk hl rfl) ?_
  refine va_get (D := E.1) (ci := 5) hx hb hts inX5 hown hK.1 hP 0 rfl rfl 1 (by decide) (hts _ fl_X5_16) (fun _ h9 => h9) rfl dX5_moveOldestToEnd_6 ?_
  refine va_alen hx hb hK.1 hP 1 1 rfl rfl (v := I 6) (I_ofNat _) dX5_moveOldestToEnd_9 ?_
  refine iv_icmp_ge (tgt := 49) hx hb dX5_moveOldestToEnd_10 (by decide) (by omega) (by omega) (fun c_10 => by exfalso; omega) (fun c_10 => ?_)
  refine lv_aload_n hx hb dX5_moveOldestToEnd_13 rfl (lv_lk hl rfl) ?_
  refine va_get (D := E.1) (ci := 5) hx hb hts inX5 hown hK.1 hP 0 rfl rfl 1 (by decide) (hts _ fl_X5_16) (fun _ h9 => h9) rfl dX5_moveOldestToEnd_14 ?_
  refine lv_iload_n hx hb dX5_moveOldestToEnd_17 rfl (lv_lk hl rfl) ?_
  refine iq_ald hx hb hK hP 1 rfl (0) (by omega) (by omega) (x := x0) (rfl) dX5_moveOldestToEnd_18 ?_
  refine lv_astore_n (lv' := [(2, .ref _), (1, .int (I _)), (0, .ref _)]) hx hb dX5_moveOldestToEnd_19 rfl hl (by decide) rfl (fun ls hl => ?_)
  refine lv_aload_n hx hb dX5_moveOldestToEnd_20 rfl (lv_lk hl rfl) ?_
  refine va_get (D := E.1) (ci := 5) hx hb hts inX5 hown hK.1 hP 0 rfl rfl 1 (by decide) (hts _ fl_X5_16) (fun _ h9 => h9) rfl dX5_moveOldestToEnd_21 ?_
  refine lv_iload_n hx hb dX5_moveOldestToEnd_24 rfl (lv_lk hl rfl) ?_
  refine lv_aload_n hx hb dX5_moveOldestToEnd_25 rfl (lv_lk hl rfl) ?_
  refine va_get (D := E.1) (ci := 5) hx hb hts inX5 hown hK.1 hP 0 rfl rfl 1 (by decide) (hts _ fl_X5_16) (fun _ h9 => h9) rfl dX5_moveOldestToEnd_26 ?_
  refine lv_iload_n hx hb dX5_moveOldestToEnd_29 rfl (lv_lk hl rfl) ?_
  refine iv_iconst hx hb dX5_moveOldestToEnd_30 ?_
  refine iv_iadd hx hb dX5_moveOldestToEnd_31 ?_
  refine iq_ald hx hb hK hP 1 rfl (1) (by omega) (by omega) (x := x1) (rfl) dX5_moveOldestToEnd_32 ?_
  refine iq_ast hx hb hK hP (dm hD rfl) hS 1 3 rfl rfl (0) (by omega) (by omega) dX5_moveOldestToEnd_33 [(a, .inr (5, [.ref nw, .ref b, .int (I n), .ref t9])), (b, rA E 6 (fun j => ([x1, x1, x2, x3, x4, x5])[j]?)), (x0, .inr (3, v0)), (x1, .inr (3, v1)), (x2, .inr (3, v2)), (x3, .inr (3, v3)), (x4, .inr (3, v4)), (x5, .inr (3, v5))] rfl (q_up [x0, x1, x2, x3, x4, x5] 0 x1 (Nat.le_of_ble_eq_true rfl)) (fun H locs hP hS => ?_)
  refine lv_aload_n hx hb dX5_moveOldestToEnd_34 rfl (lv_lk hl rfl) ?_
  refine va_get (D := E.1) (ci := 5) hx hb hts inX5 hown hK.1 hP 0 rfl rfl 1 (by decide) (hts _ fl_X5_16) (fun _ h9 => h9) rfl dX5_moveOldestToEnd_35 ?_
  refine lv_iload_n hx hb dX5_moveOldestToEnd_38 rfl (lv_lk hl rfl) ?_
  refine iv_iconst hx hb dX5_moveOldestToEnd_39 ?_
  refine iv_iadd hx hb dX5_moveOldestToEnd_40 ?_
  refine lv_aload_n hx hb dX5_moveOldestToEnd_41 rfl (lv_lk hl rfl) ?_
  refine iq_ast hx hb hK hP (dm hD rfl) hS 1 2 rfl rfl (1) (by omega) (by omega) dX5_moveOldestToEnd_42 [(a, .inr (5, [.ref nw, .ref b, .int (I n), .ref t9])), (b, rA E 6 (fun j => ([x1, x0, x2, x3, x4, x5])[j]?)), (x0, .inr (3, v0)), (x1, .inr (3, v1)), (x2, .inr (3, v2)), (x3, .inr (3, v3)), (x4, .inr (3, v4)), (x5, .inr (3, v5))] rfl (q_up [x1, x1, x2, x3, x4, x5] 1 x0 (Nat.le_of_ble_eq_true rfl)) (fun H locs hP hS => ?_)
  refine iv_iinc (k := 1) hx hb dX5_moveOldestToEnd_43 hl rfl (1) (by omega) (by decide) [(1, .int (I _)), (2, .ref _), (0, .ref _)] rfl (fun ls hl => ?_)
  refine lv_goto (tgt := 2) hx hb dX5_moveOldestToEnd_46 (by decide) ?_
  refine lv_iload_n hx hb dX5_moveOldestToEnd_2 rfl (lv_lk hl rfl) ?_
  refine iv_iconst hx hb dX5_moveOldestToEnd_3 ?_
  refine iv_iadd hx hb dX5_moveOldestToEnd_4 ?_
  refine lv_aload_n hx hb dX5_moveOldestToEnd_5 rfl (lv_lk hl rfl) ?_
  refine va_get (D := E.1) (ci := 5) hx hb hts inX5 hown hK.1 hP 0 rfl rfl 1 (by decide) (hts _ fl_X5_16) (fun _ h9 => h9) rfl dX5_moveOldestToEnd_6 ?_
  refine va_alen hx hb hK.1 hP 1 1 rfl rfl (v := I 6) (I_ofNat _) dX5_moveOldestToEnd_9 ?_
  refine iv_icmp_ge (tgt := 49) hx hb dX5_moveOldestToEnd_10 (by decide) (by omega) (by omega) (fun c_10 => by exfalso; omega) (fun c_10 => ?_)
  refine lv_aload_n hx hb dX5_moveOldestToEnd_13 rfl (lv_lk hl rfl) ?_
  refine va_get (D := E.1) (ci := 5) hx hb hts inX5 hown hK.1 hP 0 rfl rfl 1 (by decide) (hts _ fl_X5_16) (fun _ h9 => h9) rfl dX5_moveOldestToEnd_14 ?_
  refine lv_iload_n hx hb dX5_moveOldestToEnd_17 rfl (lv_lk hl rfl) ?_
  refine iq_ald hx hb hK hP 1 rfl (1) (by omega) (by omega) (x := x0) (rfl) dX5_moveOldestToEnd_18 ?_
  refine lv_astore_n (lv' := [(2, .ref _), (1, .int (I _)), (0, .ref _)]) hx hb dX5_moveOldestToEnd_19 rfl hl (by decide) rfl (fun ls hl => ?_)
  refine lv_aload_n hx hb dX5_moveOldestToEnd_20 rfl (lv_lk hl rfl) ?_
  refine va_get (D := E.1) (ci := 5) hx hb hts inX5 hown hK.1 hP 0 rfl rfl 1 (by decide) (hts _ fl_X5_16) (fun _ h9 => h9) rfl dX5_moveOldestToEnd_21 ?_
  refine lv_iload_n hx hb dX5_moveOldestToEnd_24 rfl (lv_lk hl rfl) ?_
  refine lv_aload_n hx hb dX5_moveOldestToEnd_25 rfl (lv_lk hl rfl) ?_
  refine va_get (D := E.1) (ci := 5) hx hb hts inX5 hown hK.1 hP 0 rfl rfl 1 (by decide) (hts _ fl_X5_16) (fun _ h9 => h9) rfl dX5_moveOldestToEnd_26 ?_
  refine lv_iload_n hx hb dX5_moveOldestToEnd_29 rfl (lv_lk hl rfl) ?_
  refine iv_iconst hx hb dX5_moveOldestToEnd_30 ?_
  refine iv_iadd hx hb dX5_moveOldestToEnd_31 ?_
  refine iq_ald hx hb hK hP 1 rfl (2) (by omega) (by omega) (x := x2) (rfl) dX5_moveOldestToEnd_32 ?_
  refine iq_ast hx hb hK hP (dm hD rfl) hS 1 4 rfl rfl (1) (by omega) (by omega) dX5_moveOldestToEnd_33 [(a, .inr (5, [.ref nw, .ref b, .int (I n), .ref t9])), (b, rA E 6 (fun j => ([x1, x2, x2, x3, x4, x5])[j]?)), (x0, .inr (3, v0)), (x1, .inr (3, v1)), (x2, .inr (3, v2)), (x3, .inr (3, v3)), (x4, .inr (3, v4)), (x5, .inr (3, v5))] rfl (q_up [x1, x0, x2, x3, x4, x5] 1 x2 (Nat.le_of_ble_eq_true rfl)) (fun H locs hP hS => ?_)
  refine lv_aload_n hx hb dX5_moveOldestToEnd_34 rfl (lv_lk hl rfl) ?_
  refine va_get (D := E.1) (ci := 5) hx hb hts inX5 hown hK.1 hP 0 rfl rfl 1 (by decide) (hts _ fl_X5_16) (fun _ h9 => h9) rfl dX5_moveOldestToEnd_35 ?_
  refine lv_iload_n hx hb dX5_moveOldestToEnd_38 rfl (lv_lk hl rfl) ?_
  refine iv_iconst hx hb dX5_moveOldestToEnd_39 ?_
  refine iv_iadd hx hb dX5_moveOldestToEnd_40 ?_
  refine lv_aload_n hx hb dX5_moveOldestToEnd_41 rfl (lv_lk hl rfl) ?_
  refine iq_ast hx hb hK hP (dm hD rfl) hS 1 2 rfl rfl (2) (by omega) (by omega) dX5_moveOldestToEnd_42 [(a, .inr (5, [.ref nw, .ref b, .int (I n), .ref t9])), (b, rA E 6 (fun j => ([x1, x2, x0, x3, x4, x5])[j]?)), (x0, .inr (3, v0)), (x1, .inr (3, v1)), (x2, .inr (3, v2)), (x3, .inr (3, v3)), (x4, .inr (3, v4)), (x5, .inr (3, v5))] rfl (q_up [x1, x2, x2, x3, x4, x5] 2 x0 (Nat.le_of_ble_eq_true rfl)) (fun H locs hP hS => ?_)
  refine iv_iinc (k := 1) hx hb dX5_moveOldestToEnd_43 hl rfl (2) (by omega) (by decide) [(1, .int (I _)), (2, .ref _), (0, .ref _)] rfl (fun ls hl => ?_)
  refine lv_goto (tgt := 2) hx hb dX5_moveOldestToEnd_46 (by decide) ?_
  refine lv_iload_n hx hb dX5_moveOldestToEnd_2 rfl (lv_lk hl rfl) ?_
  refine iv_iconst hx hb dX5_moveOldestToEnd_3 ?_
  refine iv_iadd hx hb dX5_moveOldestToEnd_4 ?_
  refine lv_aload_n hx hb dX5_moveOldestToEnd_5 rfl (lv_lk hl rfl) ?_
  refine va_get (D := E.1) (ci := 5) hx hb hts inX5 hown hK.1 hP 0 rfl rfl 1 (by decide) (hts _ fl_X5_16) (fun _ h9 => h9) rfl dX5_moveOldestToEnd_6 ?_
  refine va_alen hx hb hK.1 hP 1 1 rfl rfl (v := I 6) (I_ofNat _) dX5_moveOldestToEnd_9 ?_
  refine iv_icmp_ge (tgt := 49) hx hb dX5_moveOldestToEnd_10 (by decide) (by omega) (by omega) (fun c_10 => by exfalso; omega) (fun c_10 => ?_)
  refine lv_aload_n hx hb dX5_moveOldestToEnd_13 rfl (lv_lk hl rfl) ?_
  refine va_get (D := E.1) (ci := 5) hx hb hts inX5 hown hK.1 hP 0 rfl rfl 1 (by decide) (hts _ fl_X5_16) (fun _ h9 => h9) rfl dX5_moveOldestToEnd_14 ?_
  refine lv_iload_n hx hb dX5_moveOldestToEnd_17 rfl (lv_lk hl rfl) ?_
  refine iq_ald hx hb hK hP 1 rfl (2) (by omega) (by omega) (x := x0) (rfl) dX5_moveOldestToEnd_18 ?_
  refine lv_astore_n (lv' := [(2, .ref _), (1, .int (I _)), (0, .ref _)]) hx hb dX5_moveOldestToEnd_19 rfl hl (by decide) rfl (fun ls hl => ?_)
  refine lv_aload_n hx hb dX5_moveOldestToEnd_20 rfl (lv_lk hl rfl) ?_
  refine va_get (D := E.1) (ci := 5) hx hb hts inX5 hown hK.1 hP 0 rfl rfl 1 (by decide) (hts _ fl_X5_16) (fun _ h9 => h9) rfl dX5_moveOldestToEnd_21 ?_
  refine lv_iload_n hx hb dX5_moveOldestToEnd_24 rfl (lv_lk hl rfl) ?_
  refine lv_aload_n hx hb dX5_moveOldestToEnd_25 rfl (lv_lk hl rfl) ?_
  refine va_get (D := E.1) (ci := 5) hx hb hts inX5 hown hK.1 hP 0 rfl rfl 1 (by decide) (hts _ fl_X5_16) (fun _ h9 => h9) rfl dX5_moveOldestToEnd_26 ?_
  refine lv_iload_n hx hb dX5_moveOldestToEnd_29 rfl (lv_lk hl rfl) ?_
  refine iv_iconst hx hb dX5_moveOldestToEnd_30 ?_
  refine iv_iadd hx hb dX5_moveOldestToEnd_31 ?_
  refine iq_ald hx hb hK hP 1 rfl (3) (by omega) (by omega) (x := x3) (rfl) dX5_moveOldestToEnd_32 ?_
  refine iq_ast hx hb hK hP (dm hD rfl) hS 1 5 rfl rfl (2) (by omega) (by omega) dX5_moveOldestToEnd_33 [(a, .inr (5, [.ref nw, .ref b, .int (I n), .ref t9])), (b, rA E 6 (fun j => ([x1, x2, x3, x3, x4, x5])[j]?)), (x0, .inr (3, v0)), (x1, .inr (3, v1)), (x2, .inr (3, v2)), (x3, .inr (3, v3)), (x4, .inr (3, v4)), (x5, .inr (3, v5))] rfl (q_up [x1, x2, x0, x3, x4, x5] 2 x3 (Nat.le_of_ble_eq_true rfl)) (fun H locs hP hS => ?_)
  refine lv_aload_n hx hb dX5_moveOldestToEnd_34 rfl (lv_lk hl rfl) ?_
  refine va_get (D := E.1) (ci := 5) hx hb hts inX5 hown hK.1 hP 0 rfl rfl 1 (by decide) (hts _ fl_X5_16) (fun _ h9 => h9) rfl dX5_moveOldestToEnd_35 ?_
  refine lv_iload_n hx hb dX5_moveOldestToEnd_38 rfl (lv_lk hl rfl) ?_
  refine iv_iconst hx hb dX5_moveOldestToEnd_39 ?_
  refine iv_iadd hx hb dX5_moveOldestToEnd_40 ?_
  refine lv_aload_n hx hb dX5_moveOldestToEnd_41 rfl (lv_lk hl rfl) ?_
  refine iq_ast hx hb hK hP (dm hD rfl) hS 1 2 rfl rfl (3) (by omega) (by omega) dX5_moveOldestToEnd_42 [(a, .inr (5, [.ref nw, .ref b, .int (I n), .ref t9])), (b, rA E 6 (fun j => ([x1, x2, x3, x0, x4, x5])[j]?)), (x0, .inr (3, v0)), (x1, .inr (3, v1)), (x2, .inr (3, v2)), (x3, .inr (3, v3)), (x4, .inr (3, v4)), (x5, .inr (3, v5))] rfl (q_up [x1, x2, x3, x3, x4, x5] 3 x0 (Nat.le_of_ble_eq_true rfl)) (fun H locs hP hS => ?_)
  refine iv_iinc (k := 1) hx hb dX5_moveOldestToEnd_43 hl rfl (3) (by omega) (by decide) [(1, .int (I _)), (2, .ref _), (0, .ref _)] rfl (fun ls hl => ?_)
  refine lv_goto (tgt := 2) hx hb dX5_moveOldestToEnd_46 (by decide) ?_
  refine lv_iload_n hx hb dX5_moveOldestToEnd_2 rfl (lv_lk hl rfl) ?_
  refine iv_iconst hx hb dX5_moveOldestToEnd_3 ?_
  refine iv_iadd hx hb dX5_moveOldestToEnd_4 ?_
  refine lv_aload_n hx hb dX5_moveOldestToEnd_5 rfl (lv_lk hl rfl) ?_
  refine va_get (D := E.1) (ci := 5) hx hb hts inX5 hown hK.1 hP 0 rfl rfl 1 (by decide) (hts _ fl_X5_16) (fun _ h9 => h9) rfl dX5_moveOldestToEnd_6 ?_
  refine va_alen hx hb hK.1 hP 1 1 rfl rfl (v := I 6) (I_ofNat _) dX5_moveOldestToEnd_9 ?_
  refine iv_icmp_ge (tgt := 49) hx hb dX5_moveOldestToEnd_10 (by decide) (by omega) (by omega) (fun c_10 => by exfalso; omega) (fun c_10 => ?_)
  refine lv_aload_n hx hb dX5_moveOldestToEnd_13 rfl (lv_lk hl rfl) ?_
  refine va_get (D := E.1) (ci := 5) hx hb hts inX5 hown hK.1 hP 0 rfl rfl 1 (by decide) (hts _ fl_X5_16) (fun _ h9 => h9) rfl dX5_moveOldestToEnd_14 ?_
  refine lv_iload_n hx hb dX5_moveOldestToEnd_17 rfl (lv_lk hl rfl) ?_
  refine iq_ald hx hb hK hP 1 rfl (3) (by omega) (by omega) (x := x0) (rfl) dX5_moveOldestToEnd_18 ?_
  refine lv_astore_n (lv' := [(2, .ref _), (1, .int (I _)), (0, .ref _)]) hx hb dX5_moveOldestToEnd_19 rfl hl (by decide) rfl (fun ls hl => ?_)
  refine lv_aload_n hx hb dX5_moveOldestToEnd_20 rfl (lv_lk hl rfl) ?_
  refine va_get (D := E.1) (ci := 5) hx hb hts inX5 hown hK.1 hP 0 rfl rfl 1 (by decide) (hts _ fl_X5_16) (fun _ h9 => h9) rfl dX5_moveOldestToEnd_21 ?_
  refine lv_iload_n hx hb dX5_moveOldestToEnd_24 rfl (lv_lk hl rfl) ?_
  refine lv_aload_n hx hb dX5_moveOldestToEnd_25 rfl (lv_lk hl rfl) ?_
  refine va_get (D := E.1) (ci := 5) hx hb hts inX5 hown hK.1 hP 0 rfl rfl 1 (by decide) (hts _ fl_X5_16) (fun _ h9 => h9) rfl dX5_moveOldestToEnd_26 ?_
  refine lv_iload_n hx hb dX5_moveOldestToEnd_29 rfl (lv_lk hl rfl) ?_
  refine iv_iconst hx hb dX5_moveOldestToEnd_30 ?_
  refine iv_iadd hx hb dX5_moveOldestToEnd_31 ?_
  refine iq_ald hx hb hK hP 1 rfl (4) (by omega) (by omega) (x := x4) (rfl) dX5_moveOldestToEnd_32 ?_
  refine iq_ast hx hb hK hP (dm hD rfl) hS 1 6 rfl rfl (3) (by omega) (by omega) dX5_moveOldestToEnd_33 [(a, .inr (5, [.ref nw, .ref b, .int (I n), .ref t9])), (b, rA E 6 (fun j => ([x1, x2, x3, x4, x4, x5])[j]?)), (x0, .inr (3, v0)), (x1, .inr (3, v1)), (x2, .inr (3, v2)), (x3, .inr (3, v3)), (x4, .inr (3, v4)), (x5, .inr (3, v5))] rfl (q_up [x1, x2, x3, x0, x4, x5] 3 x4 (Nat.le_of_ble_eq_true rfl)) (fun H locs hP hS => ?_)
  refine lv_aload_n hx hb dX5_moveOldestToEnd_34 rfl (lv_lk hl rfl) ?_
  refine va_get (D := E.1) (ci := 5) hx hb hts inX5 hown hK.1 hP 0 rfl rfl 1 (by decide) (hts _ fl_X5_16) (fun _ h9 => h9) rfl dX5_moveOldestToEnd_35 ?_
  refine lv_iload_n hx hb dX5_moveOldestToEnd_38 rfl (lv_lk hl rfl) ?_
  refine iv_iconst hx hb dX5_moveOldestToEnd_39 ?_
  refine iv_iadd hx hb dX5_moveOldestToEnd_40 ?_
  refine lv_aload_n hx hb dX5_moveOldestToEnd_41 rfl (lv_lk hl rfl) ?_
  refine iq_ast hx hb hK hP (dm hD rfl) hS 1 2 rfl rfl (4) (by omega) (by omega) dX5_moveOldestToEnd_42 [(a, .inr (5, [.ref nw, .ref b, .int (I n), .ref t9])), (b, rA E 6 (fun j => ([x1, x2, x3, x4, x0, x5])[j]?)), (x0, .inr (3, v0)), (x1, .inr (3, v1)), (x2, .inr (3, v2)), (x3, .inr (3, v3)), (x4, .inr (3, v4)), (x5, .inr (3, v5))] rfl (q_up [x1, x2, x3, x4, x4, x5] 4 x0 (Nat.le_of_ble_eq_true rfl)) (fun H locs hP hS => ?_)
  refine iv_iinc (k := 1) hx hb dX5_moveOldestToEnd_43 hl rfl (4) (by omega) (by decide) [(1, .int (I _)), (2, .ref _), (0, .ref _)] rfl (fun ls hl => ?_)
  refine lv_goto (tgt := 2) hx hb dX5_moveOldestToEnd_46 (by decide) ?_
  refine lv_iload_n hx hb dX5_moveOldestToEnd_2 rfl (lv_lk hl rfl) ?_
  refine iv_iconst hx hb dX5_moveOldestToEnd_3 ?_
  refine iv_iadd hx hb dX5_moveOldestToEnd_4 ?_
  refine lv_aload_n hx hb dX5_moveOldestToEnd_5 rfl (lv_lk hl rfl) ?_
  refine va_get (D := E.1) (ci := 5) hx hb hts inX5 hown hK.1 hP 0 rfl rfl 1 (by decide) (hts _ fl_X5_16) (fun _ h9 => h9) rfl dX5_moveOldestToEnd_6 ?_
  refine va_alen hx hb hK.1 hP 1 1 rfl rfl (v := I 6) (I_ofNat _) dX5_moveOldestToEnd_9 ?_
  refine iv_icmp_ge (tgt := 49) hx hb dX5_moveOldestToEnd_10 (by decide) (by omega) (by omega) (fun c_10 => by exfalso; omega) (fun c_10 => ?_)
  refine lv_aload_n hx hb dX5_moveOldestToEnd_13 rfl (lv_lk hl rfl) ?_
  refine va_get (D := E.1) (ci := 5) hx hb hts inX5 hown hK.1 hP 0 rfl rfl 1 (by decide) (hts _ fl_X5_16) (fun _ h9 => h9) rfl dX5_moveOldestToEnd_14 ?_
  refine lv_iload_n hx hb dX5_moveOldestToEnd_17 rfl (lv_lk hl rfl) ?_
  refine iq_ald hx hb hK hP 1 rfl (4) (by omega) (by omega) (x := x0) (rfl) dX5_moveOldestToEnd_18 ?_
  refine lv_astore_n (lv' := [(2, .ref _), (1, .int (I _)), (0, .ref _)]) hx hb dX5_moveOldestToEnd_19 rfl hl (by decide) rfl (fun ls hl => ?_)
  refine lv_aload_n hx hb dX5_moveOldestToEnd_20 rfl (lv_lk hl rfl) ?_
  refine va_get (D := E.1) (ci := 5) hx hb hts inX5 hown hK.1 hP 0 rfl rfl 1 (by decide) (hts _ fl_X5_16) (fun _ h9 => h9) rfl dX5_moveOldestToEnd_21 ?_
  refine lv_iload_n hx hb dX5_moveOldestToEnd_24 rfl (lv_lk hl rfl) ?_
  refine lv_aload_n hx hb dX5_moveOldestToEnd_25 rfl (lv_lk hl rfl) ?_
  refine va_get (D := E.1) (ci := 5) hx hb hts inX5 hown hK.1 hP 0 rfl rfl 1 (by decide) (hts _ fl_X5_16) (fun _ h9 => h9) rfl dX5_moveOldestToEnd_26 ?_
  refine lv_iload_n hx hb dX5_moveOldestToEnd_29 rfl (lv_lk hl rfl) ?_
  refine iv_iconst hx hb dX5_moveOldestToEnd_30 ?_
  refine iv_iadd hx hb dX5_moveOldestToEnd_31 ?_
  refine iq_ald hx hb hK hP 1 rfl (5) (by omega) (by omega) (x := x5) (rfl) dX5_moveOldestToEnd_32 ?_
  refine iq_ast hx hb hK hP (dm hD rfl) hS 1 7 rfl rfl (4) (by omega) (by omega) dX5_moveOldestToEnd_33 [(a, .inr (5, [.ref nw, .ref b, .int (I n), .ref t9])), (b, rA E 6 (fun j => ([x1, x2, x3, x4, x5, x5])[j]?)), (x0, .inr (3, v0)), (x1, .inr (3, v1)), (x2, .inr (3, v2)), (x3, .inr (3, v3)), (x4, .inr (3, v4)), (x5, .inr (3, v5))] rfl (q_up [x1, x2, x3, x4, x0, x5] 4 x5 (Nat.le_of_ble_eq_true rfl)) (fun H locs hP hS => ?_)
  refine lv_aload_n hx hb dX5_moveOldestToEnd_34 rfl (lv_lk hl rfl) ?_
  refine va_get (D := E.1) (ci := 5) hx hb hts inX5 hown hK.1 hP 0 rfl rfl 1 (by decide) (hts _ fl_X5_16) (fun _ h9 => h9) rfl dX5_moveOldestToEnd_35 ?_
  refine lv_iload_n hx hb dX5_moveOldestToEnd_38 rfl (lv_lk hl rfl) ?_
  refine iv_iconst hx hb dX5_moveOldestToEnd_39 ?_
  refine iv_iadd hx hb dX5_moveOldestToEnd_40 ?_
  refine lv_aload_n hx hb dX5_moveOldestToEnd_41 rfl (lv_lk hl rfl) ?_
  refine iq_ast hx hb hK hP (dm hD rfl) hS 1 2 rfl rfl (5) (by omega) (by omega) dX5_moveOldestToEnd_42 [(a, .inr (5, [.ref nw, .ref b, .int (I n), .ref t9])), (b, rA E 6 (fun j => ([x1, x2, x3, x4, x5, x0])[j]?)), (x0, .inr (3, v0)), (x1, .inr (3, v1)), (x2, .inr (3, v2)), (x3, .inr (3, v3)), (x4, .inr (3, v4)), (x5, .inr (3, v5))] rfl (q_up [x1, x2, x3, x4, x5, x5] 5 x0 (Nat.le_of_ble_eq_true rfl)) (fun H locs hP hS => ?_)
  refine iv_iinc (k := 1) hx hb dX5_moveOldestToEnd_43 hl rfl (5) (by omega) (by decide) [(1, .int (I _)), (2, .ref _), (0, .ref _)] rfl (fun ls hl => ?_)
  refine lv_goto (tgt := 2) hx hb dX5_moveOldestToEnd_46 (by decide) ?_
  refine lv_iload_n hx hb dX5_moveOldestToEnd_2 rfl (lv_lk hl rfl) ?_
  refine iv_iconst hx hb dX5_moveOldestToEnd_3 ?_
  refine iv_iadd hx hb dX5_moveOldestToEnd_4 ?_
  refine lv_aload_n hx hb dX5_moveOldestToEnd_5 rfl (lv_lk hl rfl) ?_
  refine va_get (D := E.1) (ci := 5) hx hb hts inX5 hown hK.1 hP 0 rfl rfl 1 (by decide) (hts _ fl_X5_16) (fun _ h9 => h9) rfl dX5_moveOldestToEnd_6 ?_
  refine va_alen hx hb hK.1 hP 1 1 rfl rfl (v := I 6) (I_ofNat _) dX5_moveOldestToEnd_9 ?_
  refine iv_icmp_ge (tgt := 49) hx hb dX5_moveOldestToEnd_10 (by decide) (by omega) (by omega) (fun c_10 => ?_) (fun c_10 => by exfalso; omega)
  exact W.vret hx hb hrt (fun t ht hW => ⟨rfl, by rw [ht]; exact hP, hS.F ht⟩) hS.2.2 dX5_moveOldestToEnd_49 hlocks
set_option maxHeartbeats 4000000 in
set_option maxRecDepth 100000 in
theorem m_X5_save_lt (l : Launch) (E : Env3) (α β : Nat → Nat) (a b t9 : Nat) (f9 : Nat → Option Nat) (st sx : S) (k : Nat) (hk : k < 6) (hf : f9 k = some (β 0)) (hd : va_D (fun _ => True) (svW E α β a b t9 f9 ((k : Int)) st sx)) : Met l yX5_save (Cond.code yX5_save cX5_save 2 none :: ALL) ({ frames := 4, cells := 0, slots := 0, locals := 127 }) (pR [.ref a] E (svW E α β a b t9 f9 ((k : Int)) st sx)) (qW none E (svW E α β a b t9 f9 ((k : Int)) st sx) (svW E α β a b t9 f9 (((k + 1 : Nat) : Int)) st st)) 0 0 (adIn (svW E α β a b t9 f9 ((k : Int)) st sx)) := by
  refine mk_met (by decide) rfl (Nat.le_of_ble_eq_true rfl) ?_
  intro p e s m args below meth c hx hb hrt hml hts hown hlocks hnm hP hK ls hl
  have hown : s.vm.findClass RX5 = some m.cls := hown
  have hl : lv_has ls 2 [(0, .ref a)] := hl
  have hD : va_D (adIn (svW E α β a b t9 f9 ((k : Int)) st sx)) (svW E α β a b t9 f9 ((k : Int)) st sx) := dself hd
  have hS : va_S (adIn (svW E α β a b t9 f9 ((k : Int)) st sx)) s.heap s.heap [] := va_S.rf
  refine lv_aload_n hx hb dX5_save_0 rfl (lv_lk hl rfl) ?_
  refine va_get (D := E.1) (ci := 5) hx hb hts inX5 hown hK.1 hP 0 rfl rfl 2 (by decide) (hts _ fl_X5_20) (fun _ h9 => h9) rfl dX5_save_1 ?_
  refine iv_bipush hx hb dX5_save_4 (by decide +kernel) ?_
  refine iv_icmp_ne (tgt := 23) hx hb dX5_save_6 (by decide) (by omega) (by omega) (fun c_6 => ?_) (fun c_6 => by exfalso; omega)
  refine lv_aload_n hx hb dX5_save_23 rfl (lv_lk hl rfl) ?_
  refine lv_aload_n hx hb dX5_save_24 rfl (lv_lk hl rfl) ?_
  refine va_get (D := E.1) (ci := 5) hx hb hts inX5 hown hK.1 hP 0 rfl rfl 2 (by decide) (hts _ fl_X5_20) (fun _ h9 => h9) rfl dX5_save_25 ?_
  refine call_S (va_runV ⟨hx, hb, hml, hown, hts⟩ (m_X5_savedAt l E a b (α 0) t9 (k : Int) f9 k hk (β 0) hf) (cwV 1 hts (gi_V ml_X5_204 im_X5_savedAt sl_X5_savedAt it_X5 cd_X5_savedAt) rfl rfl rfl (by decide +kernel) ⟨Nat.le_of_ble_eq_true rfl, Nat.le_of_ble_eq_true rfl⟩) (pR_V (q0 := 0) (ci := 5) (hP.sub (ws' := [(a, .inr (5, [.ref (α 0), .ref b, .int (I (k : Int)), .ref t9])), (b, rA E 6 f9)]) [0, 1] rfl) hK rfl rfl) rfl rfl hl.1 rfl (lv_room (Nat.le_of_ble_eq_true rfl)) dX5_save_28 ⟨Nat.le_of_ble_eq_true rfl, Nat.le_of_ble_eq_true rfl⟩) (fun _ h => h) hS rfl (fun locs hS => ?_)
  refine lv_astore_n (lv' := [(1, .ref _), (0, .ref _)]) hx hb dX5_save_31 rfl hl (by decide) rfl (fun ls hl => ?_)
  refine lv_aload_n hx hb dX5_save_32 rfl (lv_lk hl rfl) ?_
  refine lv_ifnull hx hb dX5_save_33 ?_
  refine lv_aload_n hx hb dX5_save_36 rfl (lv_lk hl rfl) ?_
  refine lv_aload_n hx hb dX5_save_37 rfl (lv_lk hl rfl) ?_
  refine va_get (D := E.1) (ci := 5) hx hb hts inX5 hown hK.1 hP 0 rfl rfl 0 (by decide) (hts _ fl_X5_10) (fun _ h9 => h9) rfl dX5_save_38 ?_
  refine call_A (X := [(a, .inr (5, [.ref (α 0), .ref b, .int (I (k : Int)), .ref t9])), (b, rA E 6 f9)]) (Y := (stW E β sx ++ stW E α st)) (Y1 := (stW E β st ++ stW E α st)) (va_runV ⟨hx, hb, hml, hown, hts⟩ (m_X3_copyFrom l E β α sx st (((dm (ws' := (svW E α β a b t9 f9 ((k : Int)) st sx)) hD rfl).sub (ws' := stW E β sx ++ stW E α st) [2, 3, 4, 5, 6, 7, 8, 9, 10, 11, 12, 13, 14, 15, 16, 17, 18, 19, 20, 21, 22, 23, 24, 25, 26, 27, 28, 29, 30, 31, 32, 33] (by decide) rfl).weaken (fun _ _ _ _ => trivial))) (cwV 1 hts (gi_V ml_X5_210 im_X3_copyFrom sl_X3_copyFrom it_X3 cd_X3_copyFrom) rfl rfl rfl (by decide +kernel) ⟨Nat.le_of_ble_eq_true rfl, Nat.le_of_ble_eq_true rfl⟩) (pR_V (q0 := 0) (ci := 3) (hP.sub (ws' := (stW E β sx ++ stW E α st)) [2, 3, 4, 5, 6, 7, 8, 9, 10, 11, 12, 13, 14, 15, 16, 17, 18, 19, 20, 21, 22, 23, 24, 25, 26, 27, 28, 29, 30, 31, 32, 33] rfl) hK rfl rfl) rfl rfl hl.1 rfl (lv_room (Nat.le_of_ble_eq_true rfl)) dX5_save_41 ⟨Nat.le_of_ble_eq_true rfl, Nat.le_of_ble_eq_true rfl⟩) hP (dm hD rfl) hS rfl (fun H locs hP hS => ?_)
  have hP : va_P E.1 vwCl (svW E α β a b t9 f9 ((k : Int)) st st) H := hP
  refine lv_aload_n hx hb dX5_save_44 rfl (lv_lk hl rfl) ?_
  refine lv_dup hx hb dX5_save_45 rfl ?_
  refine va_get (D := E.1) (ci := 5) hx hb hts inX5 hown hK.1 hP 0 rfl rfl 2 (by decide) (hts _ fl_X5_20) (fun _ h9 => h9) rfl dX5_save_46 ?_
  refine iv_iconst hx hb dX5_save_49 ?_
  refine iv_iadd hx hb dX5_save_50 ?_
  refine va_put (ci := 5) (ty := .int) hx hb hts inX5 tyX5 tyX5_ok nmX5 hown hK.1 hP (dm hD rfl) hS 0 rfl rfl 2 (by decide) (hts _ fl_X5_20) (fun _ h9 => h9) rfl (by decide +kernel) rfl rfl (Nat.le_of_ble_eq_true rfl) dX5_save_51 (fun H locs hP _ hS => ?_)
  have hP : va_P E.1 vwCl (svW E α β a b t9 f9 (((k + 1 : Nat) : Int)) st st) H := hP
  exact W.vret hx hb hrt (fun t ht hW => ⟨rfl, by rw [ht]; exact hP, hS.F ht⟩) hS.2.2 dX5_save_54 hlocks
set_option maxHeartbeats 4000000 in
set_option maxRecDepth 100000 in
theorem m_X5_save_6 (l : Launch) (E : Env3) (α β : Nat → Nat) (a b t9 x1 x2 x3 x4 x5 : Nat) (v1 v2 v3 v4 v5 : List Value) (st sx : S) (hd : va_D (fun _ => True) (s6W E α β a b t9 x1 x2 x3 x4 x5 v1 v2 v3 v4 v5 ([β 0, x1, x2, x3, x4, x5]) 6 st sx)) : Met l yX5_save (Cond.code yX5_save cX5_save 2 none :: ALL) ({ frames := 4, cells := 0, slots := 0, locals := 127 }) (pR [.ref a] E (s6W E α β a b t9 x1 x2 x3 x4 x5 v1 v2 v3 v4 v5 ([β 0, x1, x2, x3, x4, x5]) 6 st sx)) (qW none E (s6W E α β a b t9 x1 x2 x3 x4 x5 v1 v2 v3 v4 v5 ([β 0, x1, x2, x3, x4, x5]) 6 st sx) (s6W E α β a b t9 x1 x2 x3 x4 x5 v1 v2 v3 v4 v5 ([x1, x2, x3, x4, x5, β 0]) 6 st st)) 0 0 (adIn (s6W E α β a b t9 x1 x2 x3 x4 x5 v1 v2 v3 v4 v5 ([β 0, x1, x2, x3, x4, x5]) 6 st sx)) := by
  refine mk_met (by decide) rfl (Nat.le_of_ble_eq_true rfl) ?_
  intro p e s m args below meth c hx hb hrt hml hts hown hlocks hnm hP hK ls hl
  have hown : s.vm.findClass RX5 = some m.cls := hown
  have hl : lv_has ls 2 [(0, .ref a)] := hl
  have hD : va_D (adIn (s6W E α β a b t9 x1 x2 x3 x4 x5 v1 v2 v3 v4 v5 ([β 0, x1, x2, x3, x4, x5]) 6 st sx)) (s6W E α β a b t9 x1 x2 x3 x4 x5 v1 v2 v3 v4 v5 ([β 0, x1, x2, x3, x4, x5]) 6 st sx) := dself hd
  have hS : va_S (adIn (s6W E α β a b t9 x1 x2 x3 x4 x5 v1 v2 v3 v4 v5 ([β 0, x1, x2, x3, x4, x5]) 6 st sx)) s.heap s.heap [] := va_S.rf
  refine lv_aload_n hx hb dX5_save_0 rfl (lv_lk hl rfl) ?_
  refine va_get (D := E.1) (ci := 5) hx hb hts inX5 hown hK.1 hP 0 rfl rfl 2 (by decide) (hts _ fl_X5_20) (fun _ h9 => h9) rfl dX5_save_1 ?_
  refine iv_bipush hx hb dX5_save_4 (by decide +kernel) ?_
  refine iv_icmp_ne (tgt := 23) hx hb dX5_save_6 (by decide) (by omega) (by omega) (fun c_6 => by exfalso; omega) (fun c_6 => ?_)
  refine lv_aload_n hx hb dX5_save_9 rfl (lv_lk hl rfl) ?_
  refine call_W (va_runV ⟨hx, hb, hml, hown, hts⟩ (m_X5_moveOldestToEnd l E a b (α 0) t9 (β 0) x1 x2 x3 x4 x5 6 [.int (I (sx 0)), .ref (β 1), .ref (β 5), .ref (β 9), .ref (β 13), .ref (β 14)] v1 v2 v3 v4 v5 (((dm (ws' := (s6W E α β a b t9 x1 x2 x3 x4 x5 v1 v2 v3 v4 v5 ([β 0, x1, x2, x3, x4, x5]) 6 st sx)) hD rfl).sub (ws' := [(a, .inr (5, [.ref (α 0), .ref b, .int (I 6), .ref t9])), (b, rA E 6 (fun j => ([β 0, x1, x2, x3, x4, x5] : List Nat)[j]?)), (β 0, .inr (3, [.int (I (sx 0)), .ref (β 1), .ref (β 5), .ref (β 9), .ref (β 13), .ref (β 14)])), (x1, .inr (3, v1)), (x2, .inr (3, v2)), (x3, .inr (3, v3)), (x4, .inr (3, v4)), (x5, .inr (3, v5))]) [0, 1, 7, 2, 3, 4, 5, 6] (by decide) rfl).weaken (fun _ _ _ _ => trivial))) (cwV 0 hts (gi_V ml_X5_288 im_X5_moveOldestToEnd sl_X5_moveOldestToEnd it_X5 cd_X5_moveOldestToEnd) rfl rfl rfl (by decide +kernel) ⟨Nat.le_of_ble_eq_true rfl, Nat.le_of_ble_eq_true rfl⟩) (pR_V (q0 := 0) (ci := 5) (hP.sub (ws' := [(a, .inr (5, [.ref (α 0), .ref b, .int (I 6), .ref t9])), (b, rA E 6 (fun j => ([β 0, x1, x2, x3, x4, x5] : List Nat)[j]?)), (β 0, .inr (3, [.int (I (sx 0)), .ref (β 1), .ref (β 5), .ref (β 9), .ref (β 13), .ref (β 14)])), (x1, .inr (3, v1)), (x2, .inr (3, v2)), (x3, .inr (3, v3)), (x4, .inr (3, v4)), (x5, .inr (3, v5))]) [0, 1, 7, 2, 3, 4, 5, 6] rfl) hK rfl rfl) rfl rfl hl.1 rfl (lv_room (Nat.le_of_ble_eq_true rfl)) dX5_save_10 ⟨Nat.le_of_ble_eq_true rfl, Nat.le_of_ble_eq_true rfl⟩) hP (dm hD rfl) hS [0, 1, 7, 2, 3, 4, 5, 6] rfl (by decide) rfl (s6W E α β a b t9 x1 x2 x3 x4 x5 v1 v2 v3 v4 v5 ([x1, x2, x3, x4, x5, β 0]) 6 st sx) (rfl) rfl (fun H locs hP hS => ?_)
  refine lv_aload_n hx hb dX5_save_13 rfl (lv_lk hl rfl) ?_
  refine lv_dup hx hb dX5_save_14 rfl ?_
  refine va_get (D := E.1) (ci := 5) hx hb hts inX5 hown hK.1 hP 0 rfl rfl 2 (by decide) (hts _ fl_X5_20) (fun _ h9 => h9) rfl dX5_save_15 ?_
  refine iv_iconst hx hb dX5_save_18 ?_
  refine iv_isub hx hb dX5_save_19 ?_
  refine va_put (ci := 5) (ty := .int) hx hb hts inX5 tyX5 tyX5_ok nmX5 hown hK.1 hP (dm hD rfl) hS 0 rfl rfl 2 (by decide) (hts _ fl_X5_20) (fun _ h9 => h9) rfl (by decide +kernel) rfl rfl (Nat.le_of_ble_eq_true rfl) dX5_save_20 (fun H locs hP _ hS => ?_)
  have hP : va_P E.1 vwCl (s6W E α β a b t9 x1 x2 x3 x4 x5 v1 v2 v3 v4 v5 ([x1, x2, x3, x4, x5, β 0]) 5 st sx) H := hP
  refine lv_aload_n hx hb dX5_save_23 rfl (lv_lk hl rfl) ?_
  refine lv_aload_n hx hb dX5_save_24 rfl (lv_lk hl rfl) ?_
  refine va_get (D := E.1) (ci := 5) hx hb hts inX5 hown hK.1 hP 0 rfl rfl 2 (by decide) (hts _ fl_X5_20) (fun _ h9 => h9) rfl dX5_save_25 ?_
  refine call_S (va_runV ⟨hx, hb, hml, hown, hts⟩ (m_X5_savedAt l E a b (α 0) t9 5 (fun j => [x1, x2, x3, x4, x5, β 0][j]?) 5 (by decide) (β 0) rfl) (cwV 1 hts (gi_V ml_X5_204 im_X5_savedAt sl_X5_savedAt it_X5 cd_X5_savedAt) rfl rfl rfl (by decide +kernel) ⟨Nat.le_of_ble_eq_true rfl, Nat.le_of_ble_eq_true rfl⟩) (pR_V (q0 := 0) (ci := 5) (hP.sub (ws' := [(a, .inr (5, [.ref (α 0), .ref b, .int (I 5), .ref t9])), (b, rA E 6 (fun j => ([x1, x2, x3, x4, x5, β 0] : List Nat)[j]?))]) [0, 1] rfl) hK rfl rfl) rfl rfl hl.1 rfl (lv_room (Nat.le_of_ble_eq_true rfl)) dX5_save_28 ⟨Nat.le_of_ble_eq_true rfl, Nat.le_of_ble_eq_true rfl⟩) (fun _ h => h) hS rfl (fun locs hS => ?_)
  refine lv_astore_n (lv' := [(1, .ref _), (0, .ref _)]) hx hb dX5_save_31 rfl hl (by decide) rfl (fun ls hl => ?_)
  refine lv_aload_n hx hb dX5_save_32 rfl (lv_lk hl rfl) ?_
  refine lv_ifnull hx hb dX5_save_33 ?_
  refine lv_aload_n hx hb dX5_save_36 rfl (lv_lk hl rfl) ?_
  refine lv_aload_n hx hb dX5_save_37 rfl (lv_lk hl rfl) ?_
  refine va_get (D := E.1) (ci := 5) hx hb hts inX5 hown hK.1 hP 0 rfl rfl 0 (by decide) (hts _ fl_X5_10) (fun _ h9 => h9) rfl dX5_save_38 ?_
  refine call_A (X := ([(a, .inr (5, [.ref (α 0), .ref b, .int (I 5), .ref t9])), (b, rA E 6 (fun j => ([x1, x2, x3, x4, x5, β 0] : List Nat)[j]?))] ++ [(x1, .inr (3, v1)), (x2, .inr (3, v2)), (x3, .inr (3, v3)), (x4, .inr (3, v4)), (x5, .inr (3, v5))])) (Y := (stW E β sx ++ stW E α st)) (Y1 := (stW E β st ++ stW E α st)) (va_runV ⟨hx, hb, hml, hown, hts⟩ (m_X3_copyFrom l E β α sx st (((dm (ws' := (s6W E α β a b t9 x1 x2 x3 x4 x5 v1 v2 v3 v4 v5 ([x1, x2, x3, x4, x5, β 0]) 5 st sx)) hD rfl).sub (ws' := stW E β sx ++ stW E α st) [7, 8, 9, 10, 11, 12, 13, 14, 15, 16, 17, 18, 19, 20, 21, 22, 23, 24, 25, 26, 27, 28, 29, 30, 31, 32, 33, 34, 35, 36, 37, 38] (by decide) rfl).weaken (fun _ _ _ _ => trivial))) (cwV 1 hts (gi_V ml_X5_210 im_X3_copyFrom sl_X3_copyFrom it_X3 cd_X3_copyFrom) rfl rfl rfl (by decide +kernel) ⟨Nat.le_of_ble_eq_true rfl, Nat.le_of_ble_eq_true rfl⟩) (pR_V (q0 := 0) (ci := 3) (hP.sub (ws' := (stW E β sx ++ stW E α st)) [7, 8, 9, 10, 11, 12, 13, 14, 15, 16, 17, 18, 19, 20, 21, 22, 23, 24, 25, 26, 27, 28, 29, 30, 31, 32, 33, 34, 35, 36, 37, 38] rfl) hK rfl rfl) rfl rfl hl.1 rfl (lv_room (Nat.le_of_ble_eq_true rfl)) dX5_save_41 ⟨Nat.le_of_ble_eq_true rfl, Nat.le_of_ble_eq_true rfl⟩) hP (dm hD rfl) hS rfl (fun H locs hP hS => ?_)
  have hP : va_P E.1 vwCl (s6W E α β a b t9 x1 x2 x3 x4 x5 v1 v2 v3 v4 v5 ([x1, x2, x3, x4, x5, β 0]) 5 st st) H := hP
  refine lv_aload_n hx hb dX5_save_44 rfl (lv_lk hl rfl) ?_
  refine lv_dup hx hb dX5_save_45 rfl ?_
  refine va_get (D := E.1) (ci := 5) hx hb hts inX5 hown hK.1 hP 0 rfl rfl 2 (by decide) (hts _ fl_X5_20) (fun _ h9 => h9) rfl dX5_save_46 ?_
  refine iv_iconst hx hb dX5_save_49 ?_
  refine iv_iadd hx hb dX5_save_50 ?_
  refine va_put (ci := 5) (ty := .int) hx hb hts inX5 tyX5 tyX5_ok nmX5 hown hK.1 hP (dm hD rfl) hS 0 rfl rfl 2 (by decide) (hts _ fl_X5_20) (fun _ h9 => h9) rfl (by decide +kernel) rfl rfl (Nat.le_of_ble_eq_true rfl) dX5_save_51 (fun H locs hP _ hS => ?_)
  have hP : va_P E.1 vwCl (s6W E α β a b t9 x1 x2 x3 x4 x5 v1 v2 v3 v4 v5 ([x1, x2, x3, x4, x5, β 0]) 6 st st) H := hP
  exact W.vret hx hb hrt (fun t ht hW => ⟨rfl, by rw [ht]; exact hP, hS.F ht⟩) hS.2.2 dX5_save_54 hlocks
