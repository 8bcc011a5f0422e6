/-! the class: the text; written by cls8.py -/
/-- what is kept of the acts that were read -/
def actsR (L : List (Int × Int)) (k : Nat) (fs fn : S) : Prop := L.length = k ∧ ∀ j, j < k → L[j]? = some (fs j, fn j)
theorem actsR_s {L : List (Int × Int)} {k : Nat} {fs fn : S} {a b : Int} (h : actsR L k fs fn) : actsR (L ++ [(a, b)]) (k + 1) (up fs k a) (up fn k b) := by
  obtain ⟨h1, h2⟩ := h
  refine ⟨by rw [List.length_append, h1]; rfl, fun j hj => ?_⟩
  by_cases e : j = k
  · subst e; rw [up_eq, up_eq, List.getElem?_append_right (by omega), show j - L.length = 0 by omega]; rfl
  · rw [up_ne _ _ e, up_ne _ _ e, List.getElem?_append_left (by omega)]; exact h2 j (by omega)
theorem wdg_rng (sg nm c : Int) : -1 ≤ wdg sg nm c ∧ wdg sg nm c ≤ 99 := by unfold wdg; (repeat split) <;> omega
set_option maxHeartbeats 4000000 in
set_option maxRecDepth 100000 in
theorem m_X1_add (l : Launch) (E : Env3) (a b c1 d N : Nat) (ac : Int) (tx fs fn : S) (hd : va_D (fun _ => True) [(a, .inr (1, [.ref b, .int (I ((N : Int))), .ref c1, .ref d, .int (I ac)])), (b, iA E 60 tx), (c1, iA E 20 fs), (d, iA E 20 fn)]) (hN : N < 60) (x9 : Int) : Met l yX1_add (Cond.code yX1_add cX1_add 2 none :: ALL) ({ frames := 1, cells := 0, slots := 0, locals := 22 }) (pR [.ref a, .int (I x9)] E [(a, .inr (1, [.ref b, .int (I ((N : Int))), .ref c1, .ref d, .int (I ac)])), (b, iA E 60 tx), (c1, iA E 20 fs), (d, iA E 20 fn)]) (qW none E [(a, .inr (1, [.ref b, .int (I ((N : Int))), .ref c1, .ref d, .int (I ac)])), (b, iA E 60 tx), (c1, iA E 20 fs), (d, iA E 20 fn)] [(a, .inr (1, [.ref b, .int (I (((N + 1 : Nat) : Int))), .ref c1, .ref d, .int (I ac)])), (b, iA E 60 (up tx N x9)), (c1, iA E 20 fs), (d, iA E 20 fn)]) 0 0 (adIn [(a, .inr (1, [.ref b, .int (I ((N : Int))), .ref c1, .ref d, .int (I ac)])), (b, iA E 60 tx), (c1, iA E 20 fs), (d, iA E 20 fn)]) := by
  refine mk_met (by decide) rfl (Nat.le_of_ble_eq_true rfl) ?_
  intro p e s m args below meth c hx hb hrt hml hts hown hlocks hnm hP hK ls hl
  have hown : s.vm.findClass RX1 = some m.cls := hown
  have hl : lv_has ls 2 [(0, .ref a), (1, .int (I x9))] := hl
  have hD : va_D (adIn [(a, .inr (1, [.ref b, .int (I ((N : Int))), .ref c1, .ref d, .int (I ac)])), (b, iA E 60 tx), (c1, iA E 20 fs), (d, iA E 20 fn)]) [(a, .inr (1, [.ref b, .int (I ((N : Int))), .ref c1, .ref d, .int (I ac)])), (b, iA E 60 tx), (c1, iA E 20 fs), (d, iA E 20 fn)] := dself hd
  have hS : va_S (adIn [(a, .inr (1, [.ref b, .int (I ((N : Int))), .ref c1, .ref d, .int (I ac)])), (b, iA E 60 tx), (c1, iA E 20 fs), (d, iA E 20 fn)]) s.heap s.heap [] := va_S.rf
  refine lv_aload_n hx hb dX1_add_0 rfl (lv_lk hl rfl) ?_
  refine va_get (D := E.1) (ci := 1) hx hb hts inX1 hown hK.1 hP 0 rfl rfl 0 (by decide) (hts _ fl_X1_9) (fun _ h9 => h9) rfl dX1_add_1 ?_
  refine lv_aload_n hx hb dX1_add_4 rfl (lv_lk hl rfl) ?_
  refine va_get (D := E.1) (ci := 1) hx hb hts inX1 hown hK.1 hP 0 rfl rfl 1 (by decide) (hts _ fl_X1_21) (fun _ h9 => h9) rfl dX1_add_5 ?_
  refine lv_iload_n hx hb dX1_add_8 rfl (lv_lk hl rfl) ?_
  refine call_W (va_runSN ⟨hx, hb, hml, hown, hts⟩ (m_X5_write l E b 60 N tx x9 (by omega) (by omega)) ⟨va_cnB 3 hts (gi_all cd_X5_write) rfl rfl rfl (nwK hK 6 rfl) (hts _ it_X5) (by decide +kernel) ⟨Nat.le_of_ble_eq_true rfl, Nat.le_of_ble_eq_true rfl⟩, hts _ st_X5_write, trivial⟩ (pR_S (hP.sub (ws' := [(b, iA E 60 tx)]) [1] rfl) hK) rfl rfl hl.1 rfl (lv_room (Nat.le_of_ble_eq_true rfl)) dX1_add_9 ⟨Nat.le_of_ble_eq_true rfl, Nat.le_of_ble_eq_true rfl⟩) hP (dm hD rfl) hS [1] rfl (by decide) rfl [(a, .inr (1, [.ref b, .int (I ((N : Int))), .ref c1, .ref d, .int (I ac)])), (b, iA E 60 (up tx N x9)), (c1, iA E 20 fs), (d, iA E 20 fn)] (rfl) rfl (fun H locs hP hS => ?_)
  refine lv_aload_n hx hb dX1_add_12 rfl (lv_lk hl rfl) ?_
  refine lv_dup hx hb dX1_add_13 rfl ?_
  refine va_get (D := E.1) (ci := 1) hx hb hts inX1 hown hK.1 hP 0 rfl rfl 1 (by decide) (hts _ fl_X1_21) (fun _ h9 => h9) rfl dX1_add_14 ?_
  refine iv_iconst hx hb dX1_add_17 ?_
  refine iv_iadd hx hb dX1_add_18 ?_
  refine va_put (ci := 1) (ty := .int) hx hb hts inX1 tyX1 tyX1_ok nmX1 hown hK.1 hP (dm hD rfl) hS 0 rfl rfl 1 (by decide) (hts _ fl_X1_21) (fun _ h9 => h9) rfl (by decide +kernel) rfl rfl (Nat.le_of_ble_eq_true rfl) dX1_add_19 (fun H locs hP _ hS => ?_)
  have hP : va_P E.1 vwCl [(a, .inr (1, [.ref b, .int (I (((N + 1 : Nat) : Int))), .ref c1, .ref d, .int (I ac)])), (b, iA E 60 (up tx N x9)), (c1, iA E 20 fs), (d, iA E 20 fn)] H := hP
  exact W.vret hx hb hrt (fun t ht hW => ⟨rfl, by rw [ht]; exact hP, hS.F ht⟩) hS.2.2 dX1_add_22 hlocks
set_option maxHeartbeats 4000000 in
set_option maxRecDepth 100000 in
theorem m_X1_addAct (l : Launch) (E : Env3) (a b c1 d N k : Nat) (tx fs fn : S) (hd : va_D (fun _ => True) [(a, .inr (1, [.ref b, .int (I ((N : Int))), .ref c1, .ref d, .int (I ((k : Int)))])), (b, iA E 60 tx), (c1, iA E 20 fs), (d, iA E 20 fn)]) (hk : k < 20) (sg nm : Int) : Met l yX1_addAct (Cond.code yX1_addAct cX1_addAct 3 none :: ALL) ({ frames := 1, cells := 0, slots := 0, locals := 22 }) (pR [.ref a, .int (I sg), .int (I nm)] E [(a, .inr (1, [.ref b, .int (I ((N : Int))), .ref c1, .ref d, .int (I ((k : Int)))])), (b, iA E 60 tx), (c1, iA E 20 fs), (d, iA E 20 fn)]) (qW none E [(a, .inr (1, [.ref b, .int (I ((N : Int))), .ref c1, .ref d, .int (I ((k : Int)))])), (b, iA E 60 tx), (c1, iA E 20 fs), (d, iA E 20 fn)] [(a, .inr (1, [.ref b, .int (I ((N : Int))), .ref c1, .ref d, .int (I (((k + 1 : Nat) : Int)))])), (b, iA E 60 tx), (c1, iA E 20 (up fs k sg)), (d, iA E 20 (up fn k nm))]) 0 0 (adIn [(a, .inr (1, [.ref b, .int (I ((N : Int))), .ref c1, .ref d, .int (I ((k : Int)))])), (b, iA E 60 tx), (c1, iA E 20 fs), (d, iA E 20 fn)]) := by
  refine mk_met (by decide) rfl (Nat.le_of_ble_eq_true rfl) ?_
  intro p e s m args below meth c hx hb hrt hml hts hown hlocks hnm hP hK ls hl
  have hown : s.vm.findClass RX1 = some m.cls := hown
  have hl : lv_has ls 3 [(0, .ref a), (1, .int (I sg)), (2, .int (I nm))] := hl
  have hD : va_D (adIn [(a, .inr (1, [.ref b, .int (I ((N : Int))), .ref c1, .ref d, .int (I ((k : Int)))])), (b, iA E 60 tx), (c1, iA E 20 fs), (d, iA E 20 fn)]) [(a, .inr (1, [.ref b, .int (I ((N : Int))), .ref c1, .ref d, .int (I ((k : Int)))])), (b, iA E 60 tx), (c1, iA E 20 fs), (d, iA E 20 fn)] := dself hd
  have hS : va_S (adIn [(a, .inr (1, [.ref b, .int (I ((N : Int))), .ref c1, .ref d, .int (I ((k : Int)))])), (b, iA E 60 tx), (c1, iA E 20 fs), (d, iA E 20 fn)]) s.heap s.heap [] := va_S.rf
  refine lv_aload_n hx hb dX1_addAct_0 rfl (lv_lk hl rfl) ?_
  refine va_get (D := E.1) (ci := 1) hx hb hts inX1 hown hK.1 hP 0 rfl rfl 2 (by decide) (hts _ fl_X1_15) (fun _ h9 => h9) rfl dX1_addAct_1 ?_
  refine lv_aload_n hx hb dX1_addAct_4 rfl (lv_lk hl rfl) ?_
  refine va_get (D := E.1) (ci := 1) hx hb hts inX1 hown hK.1 hP 0 rfl rfl 4 (by decide) (hts _ fl_X1_29) (fun _ h9 => h9) rfl dX1_addAct_5 ?_
  refine lv_iload_n hx hb dX1_addAct_8 rfl (lv_lk hl rfl) ?_
  refine call_W (va_runSN ⟨hx, hb, hml, hown, hts⟩ (m_X5_write l E c1 20 k fs sg (by omega) (by omega)) ⟨va_cnB 3 hts (gi_all cd_X5_write) rfl rfl rfl (nwK hK 6 rfl) (hts _ it_X5) (by decide +kernel) ⟨Nat.le_of_ble_eq_true rfl, Nat.le_of_ble_eq_true rfl⟩, hts _ st_X5_write, trivial⟩ (pR_S (hP.sub (ws' := [(c1, iA E 20 fs)]) [2] rfl) hK) rfl rfl hl.1 rfl (lv_room (Nat.le_of_ble_eq_true rfl)) dX1_addAct_9 ⟨Nat.le_of_ble_eq_true rfl, Nat.le_of_ble_eq_true rfl⟩) hP (dm hD rfl) hS [2] rfl (by decide) rfl [(a, .inr (1, [.ref b, .int (I ((N : Int))), .ref c1, .ref d, .int (I ((k : Int)))])), (b, iA E 60 tx), (c1, iA E 20 (up fs k sg)), (d, iA E 20 fn)] (rfl) rfl (fun H locs hP hS => ?_)
  refine lv_aload_n hx hb dX1_addAct_12 rfl (lv_lk hl rfl) ?_
  refine va_get (D := E.1) (ci := 1) hx hb hts inX1 hown hK.1 hP 0 rfl rfl 3 (by decide) (hts _ fl_X1_18) (fun _ h9 => h9) rfl dX1_addAct_13 ?_
  refine lv_aload_n hx hb dX1_addAct_16 rfl (lv_lk hl rfl) ?_
  refine va_get (D := E.1) (ci := 1) hx hb hts inX1 hown hK.1 hP 0 rfl rfl 4 (by decide) (hts _ fl_X1_29) (fun _ h9 => h9) rfl dX1_addAct_17 ?_
  refine lv_iload_n hx hb dX1_addAct_20 rfl (lv_lk hl rfl) ?_
  refine call_W (va_runSN ⟨hx, hb, hml, hown, hts⟩ (m_X5_write l E d 20 k fn nm (by omega) (by omega)) ⟨va_cnB 3 hts (gi_all cd_X5_write) rfl rfl rfl (nwK hK 6 rfl) (hts _ it_X5) (by decide +kernel) ⟨Nat.le_of_ble_eq_true rfl, Nat.le_of_ble_eq_true rfl⟩, hts _ st_X5_write, trivial⟩ (pR_S (hP.sub (ws' := [(d, iA E 20 fn)]) [3] rfl) hK) rfl rfl hl.1 rfl (lv_room (Nat.le_of_ble_eq_true rfl)) dX1_addAct_21 ⟨Nat.le_of_ble_eq_true rfl, Nat.le_of_ble_eq_true rfl⟩) hP (dm hD rfl) hS [3] rfl (by decide) rfl [(a, .inr (1, [.ref b, .int (I ((N : Int))), .ref c1, .ref d, .int (I ((k : Int)))])), (b, iA E 60 tx), (c1, iA E 20 (up fs k sg)), (d, iA E 20 (up fn k nm))] (rfl) rfl (fun H locs hP hS => ?_)
  refine lv_aload_n hx hb dX1_addAct_24 rfl (lv_lk hl rfl) ?_
  refine lv_dup hx hb dX1_addAct_25 rfl ?_
  refine va_get (D := E.1) (ci := 1) hx hb hts inX1 hown hK.1 hP 0 rfl rfl 4 (by decide) (hts _ fl_X1_29) (fun _ h9 => h9) rfl dX1_addAct_26 ?_
  refine iv_iconst hx hb dX1_addAct_29 ?_
  refine iv_iadd hx hb dX1_addAct_30 ?_
  refine va_put (ci := 1) (ty := .int) hx hb hts inX1 tyX1 tyX1_ok nmX1 hown hK.1 hP (dm hD rfl) hS 0 rfl rfl 4 (by decide) (hts _ fl_X1_29) (fun _ h9 => h9) rfl (by decide +kernel) rfl rfl (Nat.le_of_ble_eq_true rfl) dX1_addAct_31 (fun H locs hP _ hS => ?_)
  have hP : va_P E.1 vwCl [(a, .inr (1, [.ref b, .int (I ((N : Int))), .ref c1, .ref d, .int (I (((k + 1 : Nat) : Int)))])), (b, iA E 60 tx), (c1, iA E 20 (up fs k sg)), (d, iA E 20 (up fn k nm))] H := hP
  exact W.vret hx hb hrt (fun t ht hW => ⟨rfl, by rw [ht]; exact hP, hS.F ht⟩) hS.2.2 dX1_addAct_34 hlocks
set_option maxHeartbeats 4000000 in
set_option maxRecDepth 100000 in
theorem m_X1_withDigit (l : Launch) (E : Env3) (sg nm x9 : Int) (hs : sg = 63 ∨ sg = 43) (hn : -1 ≤ nm ∧ nm ≤ 99) (hc : 33 ≤ x9 ∧ x9 ≤ 126) : Met l yX1_withDigit (Cond.code yX1_withDigit cX1_withDigit 7 (some .int) :: ALL) ({ frames := 0, cells := 0, slots := 0, locals := 0 }) (pR [.int (I sg), .int (I nm), .int (I x9)] E []) (qS (some (.int (I (wdg sg nm x9))))) 0 0 (fun _ => False) := by
  refine mk_met (by decide) rfl (Nat.le_of_ble_eq_true rfl) ?_
  intro p e s m args below meth c hx hb hrt hml hts hown hlocks hnm hP hK ls hl
  have hown : s.vm.findClass RX1 = some m.cls := hown
  have hl : lv_has ls 7 [(0, .int (I sg)), (1, .int (I nm)), (2, .int (I x9))] := hl
  have hS : va_S (fun _ => False) s.heap s.heap [] := va_S.rf
  refine lv_iload_n hx hb dX1_withDigit_0 rfl (lv_lk hl rfl) ?_
  refine iv_if_ne (tgt := 8) hx hb dX1_withDigit_1 (by decide) (by omega) (fun c_1 => ?_) (fun c_1 => ?_)
  · refine iv_iconst hx hb dX1_withDigit_8 ?_
    refine lv_istore_n (lv' := [(3, .int (I _)), (0, .int (I _)), (1, .int (I _)), (2, .int (I _))]) hx hb dX1_withDigit_9 rfl hl (by decide) rfl (fun ls hl => ?_)
    refine lv_iload_n hx hb dX1_withDigit_10 rfl (lv_lk hl rfl) ?_
    refine iv_bipush hx hb dX1_withDigit_11 (by decide +kernel) ?_
    refine iv_icmp_lt (tgt := 26) hx hb dX1_withDigit_13 (by decide) (by omega) (by omega) (fun c_13 => ?_) (fun c_13 => ?_)
    · refine iv_iconst hx hb dX1_withDigit_26 ?_
      refine iv_eq (wdg sg nm x9) (by unfold wdg; (repeat split) <;> omega) ?_
      exact W.iret hx hb hrt (fun t ht hW => ⟨rfl, ht⟩) hS.2.2 dX1_withDigit_27 hlocks
    · refine lv_iload_n hx hb dX1_withDigit_16 rfl (lv_lk hl rfl) ?_
      refine iv_bipush hx hb dX1_withDigit_17 (by decide +kernel) ?_
      refine iv_icmp_gt (tgt := 26) hx hb dX1_withDigit_19 (by decide) (by omega) (by omega) (fun c_19 => ?_) (fun c_19 => ?_)
      · refine iv_iconst hx hb dX1_withDigit_26 ?_
        refine iv_eq (wdg sg nm x9) (by unfold wdg; (repeat split) <;> omega) ?_
        exact W.iret hx hb hrt (fun t ht hW => ⟨rfl, ht⟩) hS.2.2 dX1_withDigit_27 hlocks
      · refine lv_iload_n hx hb dX1_withDigit_22 rfl (lv_lk hl rfl) ?_
        refine iv_if_eq (tgt := 28) hx hb dX1_withDigit_23 (by decide) (by omega) (fun c_23 => ?_) (fun c_23 => by exfalso; omega)
        refine lv_iload_n hx hb dX1_withDigit_28 rfl (lv_lk hl rfl) ?_
        refine iv_bipush hx hb dX1_withDigit_29 (by decide +kernel) ?_
        refine iv_icmp_ne (tgt := 38) hx hb dX1_withDigit_31 (by decide) (by omega) (by omega) (fun c_31 => ?_) (fun c_31 => ?_)
        · refine iv_iconst hx hb dX1_withDigit_38 ?_
          refine lv_istore (lv' := [(4, .int (I _)), (3, .int (I _)), (0, .int (I _)), (1, .int (I _)), (2, .int (I _))]) hx hb dX1_withDigit_39 hl (by decide) rfl (fun ls hl => ?_)
          refine lv_iload_n hx hb dX1_withDigit_41 rfl (lv_lk hl rfl) ?_
          refine iv_bipush hx hb dX1_withDigit_42 (by decide +kernel) ?_
          refine iv_icmp_ne (tgt := 52) hx hb dX1_withDigit_44 (by decide) (by omega) (by omega) (fun c_44 => ?_) (fun c_44 => by exfalso; omega)
          refine iv_bipush hx hb dX1_withDigit_52 (by decide +kernel) ?_
          refine lv_istore (lv' := [(5, .int (I _)), (4, .int (I _)), (3, .int (I _)), (0, .int (I _)), (1, .int (I _)), (2, .int (I _))]) hx hb dX1_withDigit_54 hl (by decide) rfl (fun ls hl => ?_)
          refine lv_iload_n hx hb dX1_withDigit_56 rfl (lv_lk hl rfl) ?_
          refine iv_iconst hx hb dX1_withDigit_57 ?_
          refine iv_icmp_ne (tgt := 65) hx hb dX1_withDigit_58 (by decide) (by omega) (by omega) (fun c_58 => ?_) (fun c_58 => ?_)
          · refine iv_bipush hx hb dX1_withDigit_65 (by decide +kernel) ?_
            refine lv_iload_n hx hb dX1_withDigit_67 rfl (lv_lk hl rfl) ?_
            refine iv_imul hx hb dX1_withDigit_68 ?_
            refine lv_iload_n hx hb dX1_withDigit_69 rfl (lv_lk hl rfl) ?_
            refine iv_iadd hx hb dX1_withDigit_70 ?_
            refine iv_bipush hx hb dX1_withDigit_71 (by decide +kernel) ?_
            refine iv_isub hx hb dX1_withDigit_73 ?_
            refine lv_istore (lv' := [(6, .int (I _)), (5, .int (I _)), (4, .int (I _)), (3, .int (I _)), (0, .int (I _)), (1, .int (I _)), (2, .int (I _))]) hx hb dX1_withDigit_74 hl (by decide) rfl (fun ls hl => ?_)
            refine lv_iload hx hb dX1_withDigit_76 (lv_lk hl rfl) ?_
            refine lv_iload hx hb dX1_withDigit_78 (lv_lk hl rfl) ?_
            refine iv_icmp_lt (tgt := 95) hx hb dX1_withDigit_80 (by decide) (by omega) (by omega) (fun c_80 => ?_) (fun c_80 => ?_)
            · refine iv_iconst hx hb dX1_withDigit_95 ?_
              refine iv_eq (wdg sg nm x9) (by unfold wdg; (repeat split) <;> omega) ?_
              exact W.iret hx hb hrt (fun t ht hW => ⟨rfl, ht⟩) hS.2.2 dX1_withDigit_96 hlocks
            · refine lv_iload hx hb dX1_withDigit_83 (lv_lk hl rfl) ?_
              refine lv_iload hx hb dX1_withDigit_85 (lv_lk hl rfl) ?_
              refine iv_icmp_gt (tgt := 95) hx hb dX1_withDigit_87 (by decide) (by omega) (by omega) (fun c_87 => ?_) (fun c_87 => ?_)
              · refine iv_iconst hx hb dX1_withDigit_95 ?_
                refine iv_eq (wdg sg nm x9) (by unfold wdg; (repeat split) <;> omega) ?_
                exact W.iret hx hb hrt (fun t ht hW => ⟨rfl, ht⟩) hS.2.2 dX1_withDigit_96 hlocks
              · refine lv_iload hx hb dX1_withDigit_90 (lv_lk hl rfl) ?_
                refine lv_goto (tgt := 96) hx hb dX1_withDigit_92 (by decide) ?_
                refine iv_eq (wdg sg nm x9) (by unfold wdg; (repeat split) <;> omega) ?_
                exact W.iret hx hb hrt (fun t ht hW => ⟨rfl, ht⟩) hS.2.2 dX1_withDigit_96 hlocks
          · refine iv_iconst hx hb dX1_withDigit_61 ?_
            refine lv_goto (tgt := 69) hx hb dX1_withDigit_62 (by decide) ?_
            refine lv_iload_n hx hb dX1_withDigit_69 rfl (lv_lk hl rfl) ?_
            refine iv_iadd hx hb dX1_withDigit_70 ?_
            refine iv_bipush hx hb dX1_withDigit_71 (by decide +kernel) ?_
            refine iv_isub hx hb dX1_withDigit_73 ?_
            refine lv_istore (lv' := [(6, .int (I _)), (5, .int (I _)), (4, .int (I _)), (3, .int (I _)), (0, .int (I _)), (1, .int (I _)), (2, .int (I _))]) hx hb dX1_withDigit_74 hl (by decide) rfl (fun ls hl => ?_)
            refine lv_iload hx hb dX1_withDigit_76 (lv_lk hl rfl) ?_
            refine lv_iload hx hb dX1_withDigit_78 (lv_lk hl rfl) ?_
            refine iv_icmp_lt (tgt := 95) hx hb dX1_withDigit_80 (by decide) (by omega) (by omega) (fun c_80 => ?_) (fun c_80 => ?_)
            · refine iv_iconst hx hb dX1_withDigit_95 ?_
              refine iv_eq (wdg sg nm x9) (by unfold wdg; (repeat split) <;> omega) ?_
              exact W.iret hx hb hrt (fun t ht hW => ⟨rfl, ht⟩) hS.2.2 dX1_withDigit_96 hlocks
            · refine lv_iload hx hb dX1_withDigit_83 (lv_lk hl rfl) ?_
              refine lv_iload hx hb dX1_withDigit_85 (lv_lk hl rfl) ?_
              refine iv_icmp_gt (tgt := 95) hx hb dX1_withDigit_87 (by decide) (by omega) (by omega) (fun c_87 => ?_) (fun c_87 => ?_)
              · refine iv_iconst hx hb dX1_withDigit_95 ?_
                refine iv_eq (wdg sg nm x9) (by unfold wdg; (repeat split) <;> omega) ?_
                exact W.iret hx hb hrt (fun t ht hW => ⟨rfl, ht⟩) hS.2.2 dX1_withDigit_96 hlocks
              · refine lv_iload hx hb dX1_withDigit_90 (lv_lk hl rfl) ?_
                refine lv_goto (tgt := 96) hx hb dX1_withDigit_92 (by decide) ?_
                refine iv_eq (wdg sg nm x9) (by unfold wdg; (repeat split) <;> omega) ?_
                exact W.iret hx hb hrt (fun t ht hW => ⟨rfl, ht⟩) hS.2.2 dX1_withDigit_96 hlocks
        · refine iv_iconst hx hb dX1_withDigit_34 ?_
          refine lv_goto (tgt := 39) hx hb dX1_withDigit_35 (by decide) ?_
          refine lv_istore (lv' := [(4, .int (I _)), (3, .int (I _)), (0, .int (I _)), (1, .int (I _)), (2, .int (I _))]) hx hb dX1_withDigit_39 hl (by decide) rfl (fun ls hl => ?_)
          refine lv_iload_n hx hb dX1_withDigit_41 rfl (lv_lk hl rfl) ?_
          refine iv_bipush hx hb dX1_withDigit_42 (by decide +kernel) ?_
          refine iv_icmp_ne (tgt := 52) hx hb dX1_withDigit_44 (by decide) (by omega) (by omega) (fun c_44 => by exfalso; omega) (fun c_44 => ?_)
          refine iv_bipush hx hb dX1_withDigit_47 (by decide +kernel) ?_
          refine lv_goto (tgt := 54) hx hb dX1_withDigit_49 (by decide) ?_
          refine lv_istore (lv' := [(5, .int (I _)), (4, .int (I _)), (3, .int (I _)), (0, .int (I _)), (1, .int (I _)), (2, .int (I _))]) hx hb dX1_withDigit_54 hl (by decide) rfl (fun ls hl => ?_)
          refine lv_iload_n hx hb dX1_withDigit_56 rfl (lv_lk hl rfl) ?_
          refine iv_iconst hx hb dX1_withDigit_57 ?_
          refine iv_icmp_ne (tgt := 65) hx hb dX1_withDigit_58 (by decide) (by omega) (by omega) (fun c_58 => ?_) (fun c_58 => ?_)
          · refine iv_bipush hx hb dX1_withDigit_65 (by decide +kernel) ?_
            refine lv_iload_n hx hb dX1_withDigit_67 rfl (lv_lk hl rfl) ?_
            refine iv_imul hx hb dX1_withDigit_68 ?_
            refine lv_iload_n hx hb dX1_withDigit_69 rfl (lv_lk hl rfl) ?_
            refine iv_iadd hx hb dX1_withDigit_70 ?_
            refine iv_bipush hx hb dX1_withDigit_71 (by decide +kernel) ?_
            refine iv_isub hx hb dX1_withDigit_73 ?_
            refine lv_istore (lv' := [(6, .int (I _)), (5, .int (I _)), (4, .int (I _)), (3, .int (I _)), (0, .int (I _)), (1, .int (I _)), (2, .int (I _))]) hx hb dX1_withDigit_74 hl (by decide) rfl (fun ls hl => ?_)
            refine lv_iload hx hb dX1_withDigit_76 (lv_lk hl rfl) ?_
            refine lv_iload hx hb dX1_withDigit_78 (lv_lk hl rfl) ?_
            refine iv_icmp_lt (tgt := 95) hx hb dX1_withDigit_80 (by decide) (by omega) (by omega) (fun c_80 => ?_) (fun c_80 => ?_)
            · refine iv_iconst hx hb dX1_withDigit_95 ?_
              refine iv_eq (wdg sg nm x9) (by unfold wdg; (repeat split) <;> omega) ?_
              exact W.iret hx hb hrt (fun t ht hW => ⟨rfl, ht⟩) hS.2.2 dX1_withDigit_96 hlocks
            · refine lv_iload hx hb dX1_withDigit_83 (lv_lk hl rfl) ?_
              refine lv_iload hx hb dX1_withDigit_85 (lv_lk hl rfl) ?_
              refine iv_icmp_gt (tgt := 95) hx hb dX1_withDigit_87 (by decide) (by omega) (by omega) (fun c_87 => ?_) (fun c_87 => ?_)
              · refine iv_iconst hx hb dX1_withDigit_95 ?_
                refine iv_eq (wdg sg nm x9) (by unfold wdg; (repeat split) <;> omega) ?_
                exact W.iret hx hb hrt (fun t ht hW => ⟨rfl, ht⟩) hS.2.2 dX1_withDigit_96 hlocks
              · refine lv_iload hx hb dX1_withDigit_90 (lv_lk hl rfl) ?_
                refine lv_goto (tgt := 96) hx hb dX1_withDigit_92 (by decide) ?_
                refine iv_eq (wdg sg nm x9) (by unfold wdg; (repeat split) <;> omega) ?_
                exact W.iret hx hb hrt (fun t ht hW => ⟨rfl, ht⟩) hS.2.2 dX1_withDigit_96 hlocks
          · refine iv_iconst hx hb dX1_withDigit_61 ?_
            refine lv_goto (tgt := 69) hx hb dX1_withDigit_62 (by decide) ?_
            refine lv_iload_n hx hb dX1_withDigit_69 rfl (lv_lk hl rfl) ?_
            refine iv_iadd hx hb dX1_withDigit_70 ?_
            refine iv_bipush hx hb dX1_withDigit_71 (by decide +kernel) ?_
            refine iv_isub hx hb dX1_withDigit_73 ?_
            refine lv_istore (lv' := [(6, .int (I _)), (5, .int (I _)), (4, .int (I _)), (3, .int (I _)), (0, .int (I _)), (1, .int (I _)), (2, .int (I _))]) hx hb dX1_withDigit_74 hl (by decide) rfl (fun ls hl => ?_)
            refine lv_iload hx hb dX1_withDigit_76 (lv_lk hl rfl) ?_
            refine lv_iload hx hb dX1_withDigit_78 (lv_lk hl rfl) ?_
            refine iv_icmp_lt (tgt := 95) hx hb dX1_withDigit_80 (by decide) (by omega) (by omega) (fun c_80 => ?_) (fun c_80 => ?_)
            · refine iv_iconst hx hb dX1_withDigit_95 ?_
              refine iv_eq (wdg sg nm x9) (by unfold wdg; (repeat split) <;> omega) ?_
              exact W.iret hx hb hrt (fun t ht hW => ⟨rfl, ht⟩) hS.2.2 dX1_withDigit_96 hlocks
            · refine lv_iload hx hb dX1_withDigit_83 (lv_lk hl rfl) ?_
              refine lv_iload hx hb dX1_withDigit_85 (lv_lk hl rfl) ?_
              refine iv_icmp_gt (tgt := 95) hx hb dX1_withDigit_87 (by decide) (by omega) (by omega) (fun c_87 => ?_) (fun c_87 => ?_)
              · refine iv_iconst hx hb dX1_withDigit_95 ?_
                refine iv_eq (wdg sg nm x9) (by unfold wdg; (repeat split) <;> omega) ?_
                exact W.iret hx hb hrt (fun t ht hW => ⟨rfl, ht⟩) hS.2.2 dX1_withDigit_96 hlocks
              · refine lv_iload hx hb dX1_withDigit_90 (lv_lk hl rfl) ?_
                refine lv_goto (tgt := 96) hx hb dX1_withDigit_92 (by decide) ?_
                refine iv_eq (wdg sg nm x9) (by unfold wdg; (repeat split) <;> omega) ?_
                exact W.iret hx hb hrt (fun t ht hW => ⟨rfl, ht⟩) hS.2.2 dX1_withDigit_96 hlocks
  · refine iv_iconst hx hb dX1_withDigit_4 ?_
    refine lv_goto (tgt := 9) hx hb dX1_withDigit_5 (by decide) ?_
    refine lv_istore_n (lv' := [(3, .int (I _)), (0, .int (I _)), (1, .int (I _)), (2, .int (I _))]) hx hb dX1_withDigit_9 rfl hl (by decide) rfl (fun ls hl => ?_)
    refine lv_iload_n hx hb dX1_withDigit_10 rfl (lv_lk hl rfl) ?_
    refine iv_bipush hx hb dX1_withDigit_11 (by decide +kernel) ?_
    refine iv_icmp_lt (tgt := 26) hx hb dX1_withDigit_13 (by decide) (by omega) (by omega) (fun c_13 => ?_) (fun c_13 => ?_)
    · refine iv_iconst hx hb dX1_withDigit_26 ?_
      refine iv_eq (wdg sg nm x9) (by unfold wdg; (repeat split) <;> omega) ?_
      exact W.iret hx hb hrt (fun t ht hW => ⟨rfl, ht⟩) hS.2.2 dX1_withDigit_27 hlocks
    · refine lv_iload_n hx hb dX1_withDigit_16 rfl (lv_lk hl rfl) ?_
      refine iv_bipush hx hb dX1_withDigit_17 (by decide +kernel) ?_
      refine iv_icmp_gt (tgt := 26) hx hb dX1_withDigit_19 (by decide) (by omega) (by omega) (fun c_19 => ?_) (fun c_19 => ?_)
      · refine iv_iconst hx hb dX1_withDigit_26 ?_
        refine iv_eq (wdg sg nm x9) (by unfold wdg; (repeat split) <;> omega) ?_
        exact W.iret hx hb hrt (fun t ht hW => ⟨rfl, ht⟩) hS.2.2 dX1_withDigit_27 hlocks
      · refine lv_iload_n hx hb dX1_withDigit_22 rfl (lv_lk hl rfl) ?_
        refine iv_if_eq (tgt := 28) hx hb dX1_withDigit_23 (by decide) (by omega) (fun c_23 => by exfalso; omega) (fun c_23 => ?_)
        refine iv_iconst hx hb dX1_withDigit_26 ?_
        refine iv_eq (wdg sg nm x9) (by unfold wdg; (repeat split) <;> omega) ?_
        exact W.iret hx hb hrt (fun t ht hW => ⟨rfl, ht⟩) hS.2.2 dX1_withDigit_27 hlocks
set_option maxHeartbeats 4000000 in
set_option maxRecDepth 100000 in
theorem m_X1_readActs (l : Launch) (E : Env3) (a b c1 d N : Nat) (ac : Int) (tx fs fn : S) (hd : va_D (fun _ => True) [(a, .inr (1, [.ref b, .int (I ((N : Int))), .ref c1, .ref d, .int (I ac)])), (b, iA E 60 tx), (c1, iA E 20 fs), (d, iA E 20 fn)]) (hB : txB N tx) : Met l yX1_readActs (Cond.code yX1_readActs cX1_readActs 5 (some .int) :: ALL) ({ frames := 2, cells := 0, slots := 0, locals := 44 }) (pR [.ref a] E [(a, .inr (1, [.ref b, .int (I ((N : Int))), .ref c1, .ref d, .int (I ac)])), (b, iA E 60 tx), (c1, iA E 20 fs), (d, iA E 20 fn)]) (qX (some (.int (I (pmF N tx 0 (-1) (-1))))) E [(a, .inr (1, [.ref b, .int (I ((N : Int))), .ref c1, .ref d, .int (I ac)])), (b, iA E 60 tx), (c1, iA E 20 fs), (d, iA E 20 fn)] (fun (g : {g : Nat × S × S // pmF N tx 0 (-1) (-1) = -1 → actsR (acF N tx 0 (-1) (-1)) g.1 g.2.1 g.2.2}) => [(a, .inr (1, [.ref b, .int (I ((N : Int))), .ref c1, .ref d, .int (I ((g.1.1 : Int)))])), (b, iA E 60 tx), (c1, iA E 20 g.1.2.1), (d, iA E 20 g.1.2.2)])) 0 0 (adIn [(a, .inr (1, [.ref b, .int (I ((N : Int))), .ref c1, .ref d, .int (I ac)])), (b, iA E 60 tx), (c1, iA E 20 fs), (d, iA E 20 fn)]) := by
  refine mk_met (by decide) rfl (Nat.le_of_ble_eq_true rfl) ?_
  intro p e s m args below meth c hx hb hrt hml hts hown hlocks hnm hP hK ls hl
  have hown : s.vm.findClass RX1 = some m.cls := hown
  have hl : lv_has ls 5 [(0, .ref a)] := hl
  have hD : va_D (adIn [(a, .inr (1, [.ref b, .int (I ((N : Int))), .ref c1, .ref d, .int (I ac)])), (b, iA E 60 tx), (c1, iA E 20 fs), (d, iA E 20 fn)]) [(a, .inr (1, [.ref b, .int (I ((N : Int))), .ref c1, .ref d, .int (I ac)])), (b, iA E 60 tx), (c1, iA E 20 fs), (d, iA E 20 fn)] := dself hd
  have hS : va_S (adIn [(a, .inr (1, [.ref b, .int (I ((N : Int))), .ref c1, .ref d, .int (I ac)])), (b, iA E 60 tx), (c1, iA E 20 fs), (d, iA E 20 fn)]) s.heap s.heap [] := va_S.rf
  refine lv_aload_n hx hb dX1_readActs_0 rfl (lv_lk hl rfl) ?_
  refine iv_iconst hx hb dX1_readActs_1 ?_
  refine va_put (ci := 1) (ty := .int) hx hb hts inX1 tyX1 tyX1_ok nmX1 hown hK.1 hP (dm hD rfl) hS 0 rfl rfl 4 (by decide) (hts _ fl_X1_29) (fun _ h9 => h9) rfl (by decide +kernel) rfl rfl (Nat.le_of_ble_eq_true rfl) dX1_readActs_2 (fun H locs hP _ hS => ?_)
  have hP : va_P E.1 vwCl [(a, .inr (1, [.ref b, .int (I ((N : Int))), .ref c1, .ref d, .int (I (((0 : Nat) : Int)))])), (b, iA E 60 tx), (c1, iA E 20 fs), (d, iA E 20 fn)] H := hP
  refine iv_iconst hx hb dX1_readActs_5 ?_
  refine lv_istore_n (lv' := [(1, .int (I _)), (0, .ref _)]) hx hb dX1_readActs_6 rfl hl (by decide) rfl (fun ls hl => ?_)
  refine iv_iconst hx hb dX1_readActs_7 ?_
  refine lv_istore_n (lv' := [(2, .int (I _)), (1, .int (I _)), (0, .ref _)]) hx hb dX1_readActs_8 rfl hl (by decide) rfl (fun ls hl => ?_)
  refine iv_iconst hx hb dX1_readActs_9 ?_
  refine lv_istore_n (lv' := [(3, .int (I _)), (2, .int (I _)), (1, .int (I _)), (0, .ref _)]) hx hb dX1_readActs_10 rfl hl (by decide) rfl (fun ls hl => ?_)
  have LOOP11 : ∀ (n9 i k : Nat) (sg nm : Int) (fs1 fn1 : S) (D : List (Int × Int)), (i + n9 = N) → ((sg = -1 ∧ nm = -1 ∧ 3 * k ≤ i) ∨ ((sg = 63 ∨ sg = 43) ∧ nm = -1 ∧ 3 * k + 1 ≤ i) ∨ ((sg = 63 ∨ sg = 43) ∧ 0 ≤ nm ∧ nm ≤ 99 ∧ 3 * k + 2 ≤ i)) → (pmF n9 tx i sg nm = pmF N tx 0 (-1) (-1)) → (actsR D k fs1 fn1) → (pmF N tx 0 (-1) (-1) = -1 → D ++ acF n9 tx i sg nm = acF N tx 0 (-1) (-1)) → ∀ (H : Heap) (locs : List Loc) (ls : Array Slot), va_P E.1 vwCl [(a, .inr (1, [.ref b, .int (I ((N : Int))), .ref c1, .ref d, .int (I ((k : Int)))])), (b, iA E 60 tx), (c1, iA E 20 fs1), (d, iA E 20 fn1)] H → va_S (adIn [(a, .inr (1, [.ref b, .int (I ((N : Int))), .ref c1, .ref d, .int (I ac)])), (b, iA E 60 tx), (c1, iA E 20 fs), (d, iA E 20 fn)]) s.heap H locs → lv_has ls 5 [(0, .ref a), (1, .int (I sg)), (2, .int (I nm)), (3, .int (I (i : Int)))] → W p l e ({ frames := 2, cells := 0, slots := 0, locals := 44 }) s m args below meth c H locs 0 0 (MQ below (qX (some (.int (I (pmF N tx 0 (-1) (-1))))) E [(a, .inr (1, [.ref b, .int (I ((N : Int))), .ref c1, .ref d, .int (I ac)])), (b, iA E 60 tx), (c1, iA E 20 fs), (d, iA E 20 fn)] (fun (g : {g : Nat × S × S // pmF N tx 0 (-1) (-1) = -1 → actsR (acF N tx 0 (-1) (-1)) g.1 g.2.1 g.2.2}) => [(a, .inr (1, [.ref b, .int (I ((N : Int))), .ref c1, .ref d, .int (I ((g.1.1 : Int)))])), (b, iA E 60 tx), (c1, iA E 20 g.1.2.1), (d, iA E 20 g.1.2.2)])) args s 0 0 (adIn [(a, .inr (1, [.ref b, .int (I ((N : Int))), .ref c1, .ref d, .int (I ac)])), (b, iA E 60 tx), (c1, iA E 20 fs), (d, iA E 20 fn)])) (F0 m 11 ls []) := by
    intro n9
    induction n9 with
    | zero =>
      intro  i k sg nm fs1 fn1 D hi9 hv he9 hA he8 H locs ls hP hS hl
      obtain rfl : N = i := by omega
      have hB0 := hB.1
      refine lv_iload_n hx hb dX1_readActs_11 rfl (lv_lk hl rfl) ?_
      refine lv_aload_n hx hb dX1_readActs_12 rfl (lv_lk hl rfl) ?_
      refine va_get (D := E.1) (ci := 1) hx hb hts inX1 hown hK.1 hP 0 rfl rfl 1 (by decide) (hts _ fl_X1_21) (fun _ h9 => h9) rfl dX1_readActs_13 ?_
      refine iv_icmp_ge (tgt := 102) hx hb dX1_readActs_16 (by decide) (by omega) (by omega) (fun c_16 => ?_) (fun c_16 => by exfalso; omega)
      refine lv_iload_n hx hb dX1_readActs_102 rfl (lv_lk hl rfl) ?_
      refine iv_iconst hx hb dX1_readActs_103 ?_
      refine iv_icmp_ne (tgt := 112) hx hb dX1_readActs_104 (by decide) (by omega) (by omega) (fun c_104 => ?_) (fun c_104 => ?_)
      · refine lv_aload_n hx hb dX1_readActs_112 rfl (lv_lk hl rfl) ?_
        refine lv_iload_n hx hb dX1_readActs_113 rfl (lv_lk hl rfl) ?_
        refine lv_iload_n hx hb dX1_readActs_114 rfl (lv_lk hl rfl) ?_
        refine call_F (va_runV ⟨hx, hb, hml, hown, hts⟩ (m_X1_addAct l E a b c1 d N k tx fs1 fn1 ((dm (ws' := [(a, .inr (1, [.ref b, .int (I ((N : Int))), .ref c1, .ref d, .int (I ((k : Int)))])), (b, iA E 60 tx), (c1, iA E 20 fs1), (d, iA E 20 fn1)]) hD rfl).weaken (fun _ _ _ _ => trivial)) (by omega) sg nm) (cwV 2 hts (gi_V ml_X1_36 im_X1_addAct sl_X1_addAct it_X1 cd_X1_addAct) rfl rfl rfl (by decide +kernel) ⟨Nat.le_of_ble_eq_true rfl, Nat.le_of_ble_eq_true rfl⟩) (pR_V (q0 := 0) (ci := 1) hP hK rfl rfl) rfl rfl hl.1 rfl (lv_room (Nat.le_of_ble_eq_true rfl)) dX1_readActs_115 ⟨Nat.le_of_ble_eq_true rfl, Nat.le_of_ble_eq_true rfl⟩) (dm hD rfl) hS rfl (fun H locs hP hS => ?_)
        have hP : va_P E.1 vwCl [(a, .inr (1, [.ref b, .int (I ((N : Int))), .ref c1, .ref d, .int (I (((k + 1 : Nat) : Int)))])), (b, iA E 60 tx), (c1, iA E 20 (up fs1 k sg)), (d, iA E 20 (up fn1 k nm))] H := hP
        refine iv_iconst hx hb dX1_readActs_118 ?_
        refine iv_eq (pmF N tx 0 (-1) (-1)) (by rw [← he9]; exact (if_neg c_104).symm) ?_
        exact W.iret hx hb hrt (fun t ht hW => ⟨rfl, ⟨⟨((k + 1), (up fs1 k sg), (up fn1 k nm)), (fun h9 => by rw [← he8 h9, show acF 0 tx N sg nm = [(sg, nm)] from if_neg c_104]; exact actsR_s hA)⟩, by rw [ht]; exact hP⟩, hS.F ht⟩) hS.2.2 dX1_readActs_119 hlocks
      · refine lv_aload_n hx hb dX1_readActs_107 rfl (lv_lk hl rfl) ?_
        refine va_get (D := E.1) (ci := 1) hx hb hts inX1 hown hK.1 hP 0 rfl rfl 1 (by decide) (hts _ fl_X1_21) (fun _ h9 => h9) rfl dX1_readActs_108 ?_
        refine iv_eq (pmF N tx 0 (-1) (-1)) (by rw [← he9]; exact (if_pos c_104).symm) ?_
        exact W.iret hx hb hrt (fun t ht hW => ⟨rfl, ⟨⟨(k, fs1, fn1), (fun h9 => by rw [← he8 h9, show acF 0 tx N sg nm = [] from if_pos c_104, List.append_nil]; exact hA)⟩, by rw [ht]; exact hP⟩, hS.F ht⟩) hS.2.2 dX1_readActs_111 hlocks
    | succ n9 ih =>
      intro  i k sg nm fs1 fn1 D hi9 hv he9 hA he8 H locs ls hP hS hl
      have hB0 := hB.1
      have htx := hB.2 i (by omega)
      refine lv_iload_n hx hb dX1_readActs_11 rfl (lv_lk hl rfl) ?_
      refine lv_aload_n hx hb dX1_readActs_12 rfl (lv_lk hl rfl) ?_
      refine va_get (D := E.1) (ci := 1) hx hb hts inX1 hown hK.1 hP 0 rfl rfl 1 (by decide) (hts _ fl_X1_21) (fun _ h9 => h9) rfl dX1_readActs_13 ?_
      refine iv_icmp_ge (tgt := 102) hx hb dX1_readActs_16 (by decide) (by omega) (by omega) (fun c_16 => by exfalso; omega) (fun c_16 => ?_)
      refine lv_aload_n hx hb dX1_readActs_19 rfl (lv_lk hl rfl) ?_
      refine va_get (D := E.1) (ci := 1) hx hb hts inX1 hown hK.1 hP 0 rfl rfl 0 (by decide) (hts _ fl_X1_9) (fun _ h9 => h9) rfl dX1_readActs_20 ?_
      refine lv_iload_n hx hb dX1_readActs_23 rfl (lv_lk hl rfl) ?_
      refine call_S (va_runSN ⟨hx, hb, hml, hown, hts⟩ (m_X5_read l E b 60 i tx (by omega) (by omega)) ⟨va_cnB 2 hts (gi_all cd_X5_read) rfl rfl rfl (nwK hK 5 rfl) (hts _ it_X5) (by decide +kernel) ⟨Nat.le_of_ble_eq_true rfl, Nat.le_of_ble_eq_true rfl⟩, hts _ st_X5_read, trivial⟩ (pR_S (hP.sub (ws' := [(b, iA E 60 tx)]) [1] rfl) hK) rfl rfl hl.1 rfl (lv_room (Nat.le_of_ble_eq_true rfl)) dX1_readActs_24 ⟨Nat.le_of_ble_eq_true rfl, Nat.le_of_ble_eq_true rfl⟩) (fun _ h => h) hS rfl (fun locs hS => ?_)
      refine lv_istore (lv' := [(4, .int (I _)), (0, .ref _), (1, .int (I _)), (2, .int (I _)), (3, .int (I _))]) hx hb dX1_readActs_27 hl (by decide) rfl (fun ls hl => ?_)
      refine lv_iload_n hx hb dX1_readActs_29 rfl (lv_lk hl rfl) ?_
      refine iv_iconst hx hb dX1_readActs_30 ?_
      refine iv_icmp_ne (tgt := 56) hx hb dX1_readActs_31 (by decide) (by omega) (by omega) (fun c_31 => ?_) (fun c_31 => ?_)
      · refine lv_iload hx hb dX1_readActs_56 (lv_lk hl rfl) ?_
        refine iv_bipush hx hb dX1_readActs_58 (by decide +kernel) ?_
        refine iv_icmp_ne (tgt := 81) hx hb dX1_readActs_60 (by decide) (by omega) (by omega) (fun c_60 => ?_) (fun c_60 => ?_)
        · refine lv_iload_n hx hb dX1_readActs_81 rfl (lv_lk hl rfl) ?_
          refine lv_iload_n hx hb dX1_readActs_82 rfl (lv_lk hl rfl) ?_
          refine lv_iload hx hb dX1_readActs_83 (lv_lk hl rfl) ?_
          refine call_S (va_runS ⟨hx, hb, hml, hown, hts⟩ (m_X1_withDigit l E sg nm (tx i) (by omega) (by omega) htx) (va_cwS 3 hts (gi_S ml_X1_40 st_X1_withDigit it_X1 cd_X1_withDigit) rfl rfl rfl (by decide +kernel) ⟨Nat.le_of_ble_eq_true rfl, Nat.le_of_ble_eq_true rfl⟩) (pR_S (hP.sub (ws' := []) [] rfl) hK) rfl rfl hl.1 rfl (lv_room (Nat.le_of_ble_eq_true rfl)) dX1_readActs_85 ⟨Nat.le_of_ble_eq_true rfl, Nat.le_of_ble_eq_true rfl⟩) (fun _ h => h) hS rfl (fun locs hS => ?_)
          have hw9 := wdg_rng sg nm (tx i)
          refine lv_istore_n (lv' := [(2, .int (I _)), (4, .int (I _)), (0, .ref _), (1, .int (I _)), (3, .int (I _))]) hx hb dX1_readActs_88 rfl hl (by decide) rfl (fun ls hl => ?_)
          refine lv_iload_n hx hb dX1_readActs_89 rfl (lv_lk hl rfl) ?_
          refine iv_iconst hx hb dX1_readActs_90 ?_
          refine iv_icmp_ne (tgt := 96) hx hb dX1_readActs_91 (by decide) (by omega) (by omega) (fun c_91 => ?_) (fun c_91 => ?_)
          · refine iv_iinc (k := 4) hx hb dX1_readActs_96 hl rfl (((i + 1 : Nat) : Int)) (by omega) (by decide) [(3, .int (I _)), (2, .int (I _)), (4, .int (I _)), (0, .ref _), (1, .int (I _))] rfl (fun ls hl => ?_)
            refine lv_goto (tgt := 11) hx hb dX1_readActs_99 (by decide) ?_
            exact ih (i + 1) k sg (wdg sg nm (tx i)) fs1 fn1 D (by omega) (Or.inr (Or.inr ⟨by omega, by omega, by omega, by omega⟩)) (by rw [← he9, pmF, if_neg c_31, if_neg (by omega), if_neg c_91]) hA (fun h9 => by rw [← he8 h9, acF, if_neg c_31, if_neg (by omega)]) H locs ls hP hS (lv_sub hl [3, 4, 1, 0] rfl)
          · refine lv_iload_n hx hb dX1_readActs_94 rfl (lv_lk hl rfl) ?_
            refine iv_eq (pmF N tx 0 (-1) (-1)) (by rw [← he9, pmF, if_neg c_31, if_neg (by omega), if_pos c_91]) ?_
            exact W.iret hx hb hrt (fun t ht hW => ⟨rfl, ⟨⟨(k, fs1, fn1), (fun h9 => by rw [← he9, pmF, if_neg c_31, if_neg (by omega), if_pos c_91] at h9; omega)⟩, by rw [ht]; exact hP⟩, hS.F ht⟩) hS.2.2 dX1_readActs_95 hlocks
        · refine lv_iload_n hx hb dX1_readActs_63 rfl (lv_lk hl rfl) ?_
          refine iv_iconst hx hb dX1_readActs_64 ?_
          refine iv_icmp_eq (tgt := 81) hx hb dX1_readActs_65 (by decide) (by omega) (by omega) (fun c_65 => ?_) (fun c_65 => ?_)
          · refine lv_iload_n hx hb dX1_readActs_81 rfl (lv_lk hl rfl) ?_
            refine lv_iload_n hx hb dX1_readActs_82 rfl (lv_lk hl rfl) ?_
            refine lv_iload hx hb dX1_readActs_83 (lv_lk hl rfl) ?_
            refine call_S (va_runS ⟨hx, hb, hml, hown, hts⟩ (m_X1_withDigit l E sg nm (tx i) (by omega) (by omega) htx) (va_cwS 3 hts (gi_S ml_X1_40 st_X1_withDigit it_X1 cd_X1_withDigit) rfl rfl rfl (by decide +kernel) ⟨Nat.le_of_ble_eq_true rfl, Nat.le_of_ble_eq_true rfl⟩) (pR_S (hP.sub (ws' := []) [] rfl) hK) rfl rfl hl.1 rfl (lv_room (Nat.le_of_ble_eq_true rfl)) dX1_readActs_85 ⟨Nat.le_of_ble_eq_true rfl, Nat.le_of_ble_eq_true rfl⟩) (fun _ h => h) hS rfl (fun locs hS => ?_)
            have hw9 := wdg_rng sg nm (tx i)
            refine lv_istore_n (lv' := [(2, .int (I _)), (4, .int (I _)), (0, .ref _), (1, .int (I _)), (3, .int (I _))]) hx hb dX1_readActs_88 rfl hl (by decide) rfl (fun ls hl => ?_)
            refine lv_iload_n hx hb dX1_readActs_89 rfl (lv_lk hl rfl) ?_
            refine iv_iconst hx hb dX1_readActs_90 ?_
            refine iv_icmp_ne (tgt := 96) hx hb dX1_readActs_91 (by decide) (by omega) (by omega) (fun c_91 => ?_) (fun c_91 => ?_)
            · refine iv_iinc (k := 4) hx hb dX1_readActs_96 hl rfl (((i + 1 : Nat) : Int)) (by omega) (by decide) [(3, .int (I _)), (2, .int (I _)), (4, .int (I _)), (0, .ref _), (1, .int (I _))] rfl (fun ls hl => ?_)
              refine lv_goto (tgt := 11) hx hb dX1_readActs_99 (by decide) ?_
              exact ih (i + 1) k sg (wdg sg nm (tx i)) fs1 fn1 D (by omega) (Or.inr (Or.inr ⟨by omega, by omega, by omega, by omega⟩)) (by rw [← he9, pmF, if_neg c_31, if_neg (by omega), if_neg c_91]) hA (fun h9 => by rw [← he8 h9, acF, if_neg c_31, if_neg (by omega)]) H locs ls hP hS (lv_sub hl [3, 4, 1, 0] rfl)
            · refine lv_iload_n hx hb dX1_readActs_94 rfl (lv_lk hl rfl) ?_
              refine iv_eq (pmF N tx 0 (-1) (-1)) (by rw [← he9, pmF, if_neg c_31, if_neg (by omega), if_pos c_91]) ?_
              exact W.iret hx hb hrt (fun t ht hW => ⟨rfl, ⟨⟨(k, fs1, fn1), (fun h9 => by rw [← he9, pmF, if_neg c_31, if_neg (by omega), if_pos c_91] at h9; omega)⟩, by rw [ht]; exact hP⟩, hS.F ht⟩) hS.2.2 dX1_readActs_95 hlocks
          · refine lv_aload_n hx hb dX1_readActs_68 rfl (lv_lk hl rfl) ?_
            refine lv_iload_n hx hb dX1_readActs_69 rfl (lv_lk hl rfl) ?_
            refine lv_iload_n hx hb dX1_readActs_70 rfl (lv_lk hl rfl) ?_
            refine call_F (va_runV ⟨hx, hb, hml, hown, hts⟩ (m_X1_addAct l E a b c1 d N k tx fs1 fn1 ((dm (ws' := [(a, .inr (1, [.ref b, .int (I ((N : Int))), .ref c1, .ref d, .int (I ((k : Int)))])), (b, iA E 60 tx), (c1, iA E 20 fs1), (d, iA E 20 fn1)]) hD rfl).weaken (fun _ _ _ _ => trivial)) (by omega) sg nm) (cwV 2 hts (gi_V ml_X1_36 im_X1_addAct sl_X1_addAct it_X1 cd_X1_addAct) rfl rfl rfl (by decide +kernel) ⟨Nat.le_of_ble_eq_true rfl, Nat.le_of_ble_eq_true rfl⟩) (pR_V (q0 := 0) (ci := 1) hP hK rfl rfl) rfl rfl hl.1 rfl (lv_room (Nat.le_of_ble_eq_true rfl)) dX1_readActs_71 ⟨Nat.le_of_ble_eq_true rfl, Nat.le_of_ble_eq_true rfl⟩) (dm hD rfl) hS rfl (fun H locs hP hS => ?_)
            have hP : va_P E.1 vwCl [(a, .inr (1, [.ref b, .int (I ((N : Int))), .ref c1, .ref d, .int (I (((k + 1 : Nat) : Int)))])), (b, iA E 60 tx), (c1, iA E 20 (up fs1 k sg)), (d, iA E 20 (up fn1 k nm))] H := hP
            refine iv_iconst hx hb dX1_readActs_74 ?_
            refine lv_istore_n (lv' := [(1, .int (I _)), (4, .int (I _)), (0, .ref _), (2, .int (I _)), (3, .int (I _))]) hx hb dX1_readActs_75 rfl hl (by decide) rfl (fun ls hl => ?_)
            refine iv_iconst hx hb dX1_readActs_76 ?_
            refine lv_istore_n (lv' := [(2, .int (I _)), (1, .int (I _)), (4, .int (I _)), (0, .ref _), (3, .int (I _))]) hx hb dX1_readActs_77 rfl hl (by decide) rfl (fun ls hl => ?_)
            refine lv_goto (tgt := 96) hx hb dX1_readActs_78 (by decide) ?_
            refine iv_iinc (k := 4) hx hb dX1_readActs_96 hl rfl (((i + 1 : Nat) : Int)) (by omega) (by decide) [(3, .int (I _)), (2, .int (I _)), (1, .int (I _)), (4, .int (I _)), (0, .ref _)] rfl (fun ls hl => ?_)
            refine lv_goto (tgt := 11) hx hb dX1_readActs_99 (by decide) ?_
            exact ih (i + 1) (k + 1) (-1) (-1) (up fs1 k sg) (up fn1 k nm) (D ++ [(sg, nm)]) (by omega) (Or.inl ⟨rfl, rfl, by omega⟩) (by rw [← he9, pmF, if_neg c_31, if_pos ⟨c_60, c_65⟩]) (actsR_s hA) (fun h9 => by rw [← he8 h9, acF, if_neg c_31, if_pos ⟨c_60, c_65⟩, List.append_assoc]; rfl) H locs ls hP hS (lv_sub hl [4, 2, 1, 0] rfl)
      · refine lv_iload hx hb dX1_readActs_34 (lv_lk hl rfl) ?_
        refine iv_bipush hx hb dX1_readActs_36 (by decide +kernel) ?_
        refine iv_icmp_eq (tgt := 50) hx hb dX1_readActs_38 (by decide) (by omega) (by omega) (fun c_38 => ?_) (fun c_38 => ?_)
        · refine lv_iload hx hb dX1_readActs_50 (lv_lk hl rfl) ?_
          refine lv_istore_n (lv' := [(1, .int (I _)), (4, .int (I _)), (0, .ref _), (2, .int (I _)), (3, .int (I _))]) hx hb dX1_readActs_52 rfl hl (by decide) rfl (fun ls hl => ?_)
          refine lv_goto (tgt := 96) hx hb dX1_readActs_53 (by decide) ?_
          refine iv_iinc (k := 4) hx hb dX1_readActs_96 hl rfl (((i + 1 : Nat) : Int)) (by omega) (by decide) [(3, .int (I _)), (1, .int (I _)), (4, .int (I _)), (0, .ref _), (2, .int (I _))] rfl (fun ls hl => ?_)
          refine lv_goto (tgt := 11) hx hb dX1_readActs_99 (by decide) ?_
          exact ih (i + 1) k (tx i) nm fs1 fn1 D (by omega) (Or.inr (Or.inl ⟨by omega, by omega, by omega⟩)) (by rw [← he9, pmF, if_pos c_31, if_neg (by omega), show nm = -1 by omega]) hA (fun h9 => by rw [← he8 h9, acF, if_pos c_31, show nm = -1 by omega]) H locs ls hP hS (lv_sub hl [3, 1, 4, 0] rfl)
        · refine lv_iload hx hb dX1_readActs_41 (lv_lk hl rfl) ?_
          refine iv_bipush hx hb dX1_readActs_43 (by decide +kernel) ?_
          refine iv_icmp_eq (tgt := 50) hx hb dX1_readActs_45 (by decide) (by omega) (by omega) (fun c_45 => ?_) (fun c_45 => ?_)
          · refine lv_iload hx hb dX1_readActs_50 (lv_lk hl rfl) ?_
            refine lv_istore_n (lv' := [(1, .int (I _)), (4, .int (I _)), (0, .ref _), (2, .int (I _)), (3, .int (I _))]) hx hb dX1_readActs_52 rfl hl (by decide) rfl (fun ls hl => ?_)
            refine lv_goto (tgt := 96) hx hb dX1_readActs_53 (by decide) ?_
            refine iv_iinc (k := 4) hx hb dX1_readActs_96 hl rfl (((i + 1 : Nat) : Int)) (by omega) (by decide) [(3, .int (I _)), (1, .int (I _)), (4, .int (I _)), (0, .ref _), (2, .int (I _))] rfl (fun ls hl => ?_)
            refine lv_goto (tgt := 11) hx hb dX1_readActs_99 (by decide) ?_
            exact ih (i + 1) k (tx i) nm fs1 fn1 D (by omega) (Or.inr (Or.inl ⟨by omega, by omega, by omega⟩)) (by rw [← he9, pmF, if_pos c_31, if_neg (by omega), show nm = -1 by omega]) hA (fun h9 => by rw [← he8 h9, acF, if_pos c_31, show nm = -1 by omega]) H locs ls hP hS (lv_sub hl [3, 1, 4, 0] rfl)
          · refine lv_iload_n hx hb dX1_readActs_48 rfl (lv_lk hl rfl) ?_
            refine iv_eq (pmF N tx 0 (-1) (-1)) (by rw [← he9, pmF, if_pos c_31, if_pos ⟨c_38, c_45⟩]) ?_
            exact W.iret hx hb hrt (fun t ht hW => ⟨rfl, ⟨⟨(k, fs1, fn1), (fun h9 => by rw [← he9, pmF, if_pos c_31, if_pos ⟨c_38, c_45⟩] at h9; omega)⟩, by rw [ht]; exact hP⟩, hS.F ht⟩) hS.2.2 dX1_readActs_49 hlocks
  exact LOOP11 N 0 0 (-1) (-1) fs fn [] (by omega) (Or.inl ⟨rfl, rfl, by omega⟩) rfl ⟨rfl, fun j hj => absurd hj (Nat.not_lt_zero j)⟩ (fun _ => rfl) _ _ _ hP hS (lv_sub hl [3, 2, 1, 0] rfl)
