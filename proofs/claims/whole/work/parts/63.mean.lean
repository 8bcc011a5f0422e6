/-! meanQuestions, class and reference: the quotient is drawn where it's a NaN -/
def mqP (st : S) (r : UInt64) : Prop := if I (st 1) = 0 then r = FP.dconst0 else alike64 r (FP.ddiv (FP.i2d (I (st 2))) (FP.i2d (I (st 1)))) = true
theorem mq_neg {st : S} {r : UInt64} (h : ¬ I (st 1) = 0) (hal : alike64 r (FP.ddiv (FP.i2d (I (st 2))) (FP.i2d (I (st 1)))) = true) : mqP st r := by unfold mqP; rw [if_neg h]; exact hal
theorem mq_pos {st : S} (h : I (st 1) = 0) : mqP st FP.dconst0 := by unfold mqP; rw [if_pos h]
theorem mq_rp {E : Env3} {ρ : Nat → Nat} {st hi : S} {n N : Nat} {tx : S} {t : State} {H : Heap} (ht : t.heap = H) (h : RP E ρ 0 st hi n N tx H) : RP E ρ 0 st hi n N tx t.heap := by rw [ht]; exact h
set_option maxHeartbeats 4000000 in
set_option maxRecDepth 100000 in
theorem mq_X5 (l : Launch) (E : Env3) (γ α : Nat → Nat) (A : Nat → Prop) (st : S) (sv : Nat → S) (n N : Nat) (tx : S) : MetD lw_cs l yX5_meanQuestions (Cond.code yX5_meanQuestions cX5_meanQuestions 2 (some .double) :: ALL) ({ frames := 0, cells := 0, slots := 0, locals := 0 }) (pP [.ref (γ 0)] E (CP E γ α A st sv n N tx)) (va_Qd (fun r (_ : Unit) => mqP st r) (fun _ _ => True) noA) 0 0 noA := by
  refine MetD.ofW (cc := cX5_meanQuestions) (maxL := 2) (ret := some .double) (by decide) rfl ?_
  intro p e s m args below meth c s₁ B hml hv hd0
  obtain ⟨rfl, hK, β, ac, fs, fn, hN, hAA, hPw⟩ := hv
  have hx := B.exec
  have hb := B.bytes
  have hr := B.returns
  have hts0 := atoms_spec (ws := Cond.code yX5_meanQuestions cX5_meanQuestions 2 (some .double) :: ALL) B.pre
  have hts : ∀ w ∈ ALL, w.before _ (s.setDrawn s.drawn) = true := dr_words (fun w h => hts0 w (List.mem_cons_of_mem _ h)) _
  have hown : (s.setDrawn s.drawn).vm.findClass RX5 = some m.cls := findClass_of_methodNamed B.named
  have hlocks := B.notSynchronized
  have hK : KB E (s.setDrawn s.drawn) := KB.same (s := s) rfl hK
  have hP : va_P E.1 vwCl (fcW E α (γ 0) (γ 1) (γ 2) (n : Int) st) s.heap := P_mono fc_mem hPw
  have hl := lv_entry ([.ref (γ 0)]) (n := 2) (Nat.le_of_ble_eq_true rfl)
  rw [lg_entry_eq]
  generalize (lg_sl ([.ref (γ 0)]) ++ List.replicate (2 - (lg_sl ([.ref (γ 0)])).length) Slot.unset).toArray = ls at hl ⊢
  have hl : lv_has ls 2 [(0, .ref (γ 0))] := hl
  refine lv_aload_n hx hb dX5_meanQuestions_0 rfl (lv_lk hl rfl) ?_
  refine va_get (D := E.1) (ci := 5) hx hb hts inX5 hown hK.1 hP 0 rfl rfl 0 (by decide) (hts _ fl_X5_10) (fun _ h9 => h9) rfl dX5_meanQuestions_1 ?_
  refine va_get (D := E.1) (ci := 3) hx hb hts inX3 hown hK.1 hP 1 rfl rfl 5 (by decide) (hts _ fl_X5_145) (fun _ h9 => h9) rfl dX5_meanQuestions_4 ?_
  refine va_get (D := E.1) (ci := 0) hx hb hts inX0 hown hK.1 hP 15 rfl rfl 0 (by decide) (hts _ fl_X5_163) (fun _ h9 => h9) rfl dX5_meanQuestions_7 ?_
  refine lv_istore_n (lv' := [(1, .int (I (st 1))), (0, .ref (γ 0))]) hx hb dX5_meanQuestions_10 rfl hl (by decide) rfl (fun ls hl => ?_)
  refine lv_iload_n hx hb dX5_meanQuestions_11 rfl (lv_lk hl rfl) ?_
  refine lv_if_ne (tgt := 19) hx hb dX5_meanQuestions_12 (by decide) (fun h9 => ?_) (fun h9 => ?_)
  · refine lv_aload_n hx hb dX5_meanQuestions_19 rfl (lv_lk hl rfl) ?_
    refine va_get (D := E.1) (ci := 5) hx hb hts inX5 hown hK.1 hP 0 rfl rfl 0 (by decide) (hts _ fl_X5_10) (fun _ h9 => h9) rfl dX5_meanQuestions_20 ?_
    refine va_get (D := E.1) (ci := 3) hx hb hts inX3 hown hK.1 hP 1 rfl rfl 5 (by decide) (hts _ fl_X5_145) (fun _ h9 => h9) rfl dX5_meanQuestions_23 ?_
    refine va_get (D := E.1) (ci := 0) hx hb hts inX0 hown hK.1 hP 15 rfl rfl 1 (by decide) (hts _ fl_X5_166) (fun _ h9 => h9) rfl dX5_meanQuestions_26 ?_
    refine lv_i2d hx hb dX5_meanQuestions_29 ?_
    refine lv_iload_n hx hb dX5_meanQuestions_30 rfl (lv_lk hl rfl) ?_
    refine lv_i2d hx hb dX5_meanQuestions_31 ?_
    refine lv_ddiv_any hd0 lw_bits hx hb dX5_meanQuestions_32 (fun r d1 hal hd1 => ?_)
    refine W.endD hd1 ?_
    exact W.dret hx hb hr (fun t ht hW => ⟨⟨r, (), rfl, mq_neg h9 hal, trivial⟩, (va_S.rf (A := noA) (H0 := s.heap)).F ht⟩) (fun q hq => absurd hq List.not_mem_nil) dX5_meanQuestions_33
  · refine lv_dconst0 hx hb dX5_meanQuestions_15 ?_
    refine lv_goto (tgt := 33) hx hb dX5_meanQuestions_16 (by decide) ?_
    refine W.endD hd0 ?_
    exact W.dret hx hb hr (fun t ht hW => ⟨⟨_, (), rfl, mq_pos h9, trivial⟩, (va_S.rf (A := noA) (H0 := s.heap)).F ht⟩) (fun q hq => absurd hq List.not_mem_nil) dX5_meanQuestions_33
set_option maxHeartbeats 4000000 in
set_option maxRecDepth 100000 in
theorem mq_X6 (l : Launch) (E : Env3) (ρ : Nat → Nat) (hρ : dR ρ 6) (st hi : S) (n N : Nat) (tx : S) : MetD lw_cs l yX6_meanQuestions (Cond.code yX6_meanQuestions cX6_meanQuestions 1 (some .double) :: ALL) ({ frames := 0, cells := 0, slots := 0, locals := 0 }) (pP [.ref (ρ 0)] E (RPa E ρ st hi n N tx)) (va_Qd (fun r (_ : Unit) => mqP st r) (fun _ t => RP E ρ 0 st hi n N tx t.heap) (adR ρ)) 0 0 (adR ρ) := by
  refine MetD.ofW (cc := cX6_meanQuestions) (maxL := 1) (ret := some .double) (by decide) rfl ?_
  intro p e s m args below meth c s₁ B hml hv hd0
  obtain ⟨rfl, hK, th, pa, kd, nm, ke, wy, hP⟩ := hv
  have hx := B.exec
  have hb := B.bytes
  have hr := B.returns
  have hts0 := atoms_spec (ws := Cond.code yX6_meanQuestions cX6_meanQuestions 1 (some .double) :: ALL) B.pre
  have hts : ∀ w ∈ ALL, w.before _ (s.setDrawn s.drawn) = true := dr_words (fun w h => hts0 w (List.mem_cons_of_mem _ h)) _
  have hown : (s.setDrawn s.drawn).vm.findClass RX6 = some m.cls := findClass_of_methodNamed B.named
  have hlocks := B.notSynchronized
  have hK : KB E (s.setDrawn s.drawn) := KB.same (s := s) rfl hK
  have hD : va_D (adR ρ) (refW E ρ th (n : Int) (N : Int) pa kd nm st hi ke tx wy) := (D_of_dR hρ rfl).weaken (fun _ _ _ h => adR_in.mp h)
  have hS : va_S (adR ρ) s.heap s.heap [] := va_S.rf
  have hl := lv_entry ([.ref (ρ 0)]) (n := 1) (Nat.le_of_ble_eq_true rfl)
  rw [lg_entry_eq]
  generalize (lg_sl ([.ref (ρ 0)]) ++ List.replicate (1 - (lg_sl ([.ref (ρ 0)])).length) Slot.unset).toArray = ls at hl ⊢
  have hl : lv_has ls 1 [(0, .ref (ρ 0))] := hl
  refine lv_aload_n hx hb dX6_meanQuestions_0 rfl (lv_lk hl rfl) ?_
  refine iv_iconst hx hb dX6_meanQuestions_1 ?_
  refine va_put (ci := 6) (ty := .int) hx hb hts inX6 tyX6 tyX6_ok nmX6 hown hK.1 hP (dm hD rfl) hS 0 rfl rfl 0 (by decide) (hts _ fl_X6_32) (fun _ h9 => h9) rfl (by decide +kernel) rfl rfl (Nat.le_of_ble_eq_true rfl) dX6_meanQuestions_2 (fun H locs hP _ hS => ?_)
  have hP : va_P E.1 vwCl (refW E ρ 0 (n : Int) (N : Int) pa kd nm st hi ke tx wy) H := hP
  refine lv_aload_n hx hb dX6_meanQuestions_5 rfl (lv_lk hl rfl) ?_
  refine va_get (D := E.1) (ci := 6) hx hb hts inX6 hown hK.1 hP 0 rfl rfl 1 (by decide) (hts _ fl_X6_7) (fun _ h9 => h9) rfl dX6_meanQuestions_6 ?_
  refine iv_iconst hx hb dX6_meanQuestions_9 ?_
  refine iv_iald hx hb hK hP 1 rfl (1) (by omega) (by omega) dX6_meanQuestions_10 ?_
  refine lv_if_ne (tgt := 18) hx hb dX6_meanQuestions_11 (by decide) (fun h9 => ?_) (fun h9 => ?_)
  · refine lv_aload_n hx hb dX6_meanQuestions_18 rfl (lv_lk hl rfl) ?_
    refine va_get (D := E.1) (ci := 6) hx hb hts inX6 hown hK.1 hP 0 rfl rfl 1 (by decide) (hts _ fl_X6_7) (fun _ h9 => h9) rfl dX6_meanQuestions_19 ?_
    refine iv_iconst hx hb dX6_meanQuestions_22 ?_
    refine iv_iald hx hb hK hP 1 rfl (2) (by omega) (by omega) dX6_meanQuestions_23 ?_
    refine lv_i2d hx hb dX6_meanQuestions_24 ?_
    refine lv_aload_n hx hb dX6_meanQuestions_25 rfl (lv_lk hl rfl) ?_
    refine va_get (D := E.1) (ci := 6) hx hb hts inX6 hown hK.1 hP 0 rfl rfl 1 (by decide) (hts _ fl_X6_7) (fun _ h9 => h9) rfl dX6_meanQuestions_26 ?_
    refine iv_iconst hx hb dX6_meanQuestions_29 ?_
    refine iv_iald hx hb hK hP 1 rfl (1) (by omega) (by omega) dX6_meanQuestions_30 ?_
    refine lv_i2d hx hb dX6_meanQuestions_31 ?_
    refine lv_ddiv_any hd0 lw_bits hx hb dX6_meanQuestions_32 (fun r d1 hal hd1 => ?_)
    refine W.endD hd1 ?_
    exact W.dret hx hb hr (fun t ht hW => ⟨⟨r, (), rfl, mq_neg h9 hal, mq_rp ht ⟨pa, kd, nm, ke, wy, hP⟩⟩, hS.F ht⟩) hS.2.2 dX6_meanQuestions_33
  · refine lv_dconst0 hx hb dX6_meanQuestions_14 ?_
    refine lv_goto (tgt := 33) hx hb dX6_meanQuestions_15 (by decide) ?_
    refine W.endD hd0 ?_
    exact W.dret hx hb hr (fun t ht hW => ⟨⟨_, (), rfl, mq_pos h9, mq_rp ht ⟨pa, kd, nm, ke, wy, hP⟩⟩, hS.F ht⟩) hS.2.2 dX6_meanQuestions_33
