/-! the law's own method same: forecasts and sums; written by law5.py -/
def adB (β : Nat → Nat) (x : Nat) : Prop := ∃ i, i < 6 ∧ x = β i
theorem adB_in {E : Env3} {β : Nat → Nat} {q z r a mm ee : S} {x : Nat} : adIn (lwW E β q z r a mm ee) x ↔ adB β x := by
  constructor
  · rintro ⟨k, e, hk⟩
    rcases k with _ | _ | _ | _ | _ | _ | k <;> simp at hk
    · exact ⟨0, by omega, hk.1.symm⟩
    · exact ⟨1, by omega, hk.1.symm⟩
    · exact ⟨2, by omega, hk.1.symm⟩
    · exact ⟨3, by omega, hk.1.symm⟩
    · exact ⟨4, by omega, hk.1.symm⟩
    · exact ⟨5, by omega, hk.1.symm⟩
  · rintro ⟨i, hi, rfl⟩
    rcases i with _ | _ | _ | _ | _ | _ | i
    · exact ⟨0, _, rfl⟩
    · exact ⟨1, _, rfl⟩
    · exact ⟨2, _, rfl⟩
    · exact ⟨3, _, rfl⟩
    · exact ⟨4, _, rfl⟩
    · exact ⟨5, _, rfl⟩
    · omega
def mnD (st : S) : UInt64 := if I (st 1) = 0 then FP.dconst0 else FP.ddiv (FP.i2d (I (st 2))) (FP.i2d (I (st 1)))
theorem mnD_no (st : S) : FP.Core.dIsNaN (mnD st) = false := by
  unfold mnD
  split
  · decide
  · rename_i h; exact dv_no _ _ h
set_option maxHeartbeats 4000000 in
set_option maxRecDepth 100000 in
theorem m_X5_mean (l : Launch) (E : Env3) (α : Nat → Nat) (a b t9 : Nat) (n : Int) (st : S) : Met l yX5_meanQuestions (Cond.code yX5_meanQuestions cX5_meanQuestions 2 (some .double) :: ALL) ({ frames := 0, cells := 0, slots := 0, locals := 0 }) (pR [.ref a] E (fcW E α a b t9 n st)) (qS (some (.double (mnD st)))) 0 0 (fun _ => False) := by
  refine mk_met (by decide) rfl (Nat.le_of_ble_eq_true rfl) ?_
  intro p e s m args below meth c hx hb hrt hml hts hown hlocks hnm hP hK ls hl
  have hown : s.vm.findClass RX5 = some m.cls := hown
  have hl : lv_has ls 2 [(0, .ref a)] := hl
  have hS : va_S (fun _ => False) s.heap s.heap [] := va_S.rf
  refine lv_aload_n hx hb dX5_meanQuestions_0 rfl (lv_lk hl rfl) ?_
  refine va_get (D := E.1) (ci := 5) hx hb hts inX5 hown hK.1 hP 0 rfl rfl 0 (by decide) (hts _ fl_X5_10) (fun _ h9 => h9) rfl dX5_meanQuestions_1 ?_
  refine va_get (D := E.1) (ci := 3) hx hb hts inX3 hown hK.1 hP 1 rfl rfl 5 (by decide) (hts _ fl_X5_145) (fun _ h9 => h9) rfl dX5_meanQuestions_4 ?_
  refine va_get (D := E.1) (ci := 0) hx hb hts inX0 hown hK.1 hP 15 rfl rfl 0 (by decide) (hts _ fl_X5_163) (fun _ h9 => h9) rfl dX5_meanQuestions_7 ?_
  refine lv_istore_n (lv' := [(1, .int (I (st 1))), (0, .ref a)]) hx hb dX5_meanQuestions_10 rfl hl (by decide) rfl (fun ls hl => ?_)
  refine lv_iload_n hx hb dX5_meanQuestions_11 rfl (lv_lk hl rfl) ?_
  refine lv_if_ne (tgt := 19) hx hb dX5_meanQuestions_12 (by decide) (fun h9 => ?_) (fun h9 => ?_)
  · refine lv_aload_n hx hb dX5_meanQuestions_19 rfl (lv_lk hl rfl) ?_
    refine va_get (D := E.1) (ci := 5) hx hb hts inX5 hown hK.1 hP 0 rfl rfl 0 (by decide) (hts _ fl_X5_10) (fun _ h9 => h9) rfl dX5_meanQuestions_20 ?_
    refine va_get (D := E.1) (ci := 3) hx hb hts inX3 hown hK.1 hP 1 rfl rfl 5 (by decide) (hts _ fl_X5_145) (fun _ h9 => h9) rfl dX5_meanQuestions_23 ?_
    refine va_get (D := E.1) (ci := 0) hx hb hts inX0 hown hK.1 hP 15 rfl rfl 1 (by decide) (hts _ fl_X5_166) (fun _ h9 => h9) rfl dX5_meanQuestions_26 ?_
    refine lv_i2d hx hb dX5_meanQuestions_29 ?_
    refine lv_iload_n hx hb dX5_meanQuestions_30 rfl (lv_lk hl rfl) ?_
    refine lv_i2d hx hb dX5_meanQuestions_31 ?_
    refine lv_ddiv hx hb dX5_meanQuestions_32 (dv_bits _ (dv_no _ _ h9)) ?_
    have e9 : mnD st = FP.ddiv (FP.i2d (I (st 2))) (FP.i2d (I (st 1))) := if_neg h9
    exact W.dret hx hb hrt (fun t ht hW => ⟨by rw [e9], ht⟩) hS.2.2 dX5_meanQuestions_33
  · refine lv_dconst0 hx hb dX5_meanQuestions_15 ?_
    refine lv_goto (tgt := 33) hx hb dX5_meanQuestions_16 (by decide) ?_
    have e9 : mnD st = FP.dconst0 := if_pos h9
    exact W.dret hx hb hrt (fun t ht hW => ⟨by rw [e9], ht⟩) hS.2.2 dX5_meanQuestions_33
theorem wait_at {st : S} {k u : Nat} (hu : u < 100) (hne : ∀ v, v < u → ¬ wouldIn st k ((v : Nat) : Int) = truthF 7 st k) (he : wouldIn st k ((u : Nat) : Int) = truthF 7 st k) : waitF 100 st k 0 = u := by
  have key : ∀ d, d ≤ u → waitF 100 st k 0 = waitF (100 - d) st k d := by
    intro d
    induction d with
    | zero => exact fun _ => rfl
    | succ d ih =>
      intro hd
      rw [ih (by omega), show 100 - d = (100 - (d + 1)) + 1 by omega, waitF_s (hne d (by omega))]
  rw [key u (Nat.le_refl _), show 100 - u = (99 - u) + 1 by omega, waitF_e he]
theorem wd_00 {st : S} {k : Nat} (hI : IB 9999 st) (hT : IT st) : wdV st k 0 0 = would st k := by
  unfold wdV
  rw [if_pos rfl]
  show (solvesF 7 (passes st 0) k).2 = (solvesF 7 st k).2
  rw [passes_0 hI hT]
theorem wd_01 {st : S} {k : Nat} (hI : IB 9999 st) (hT : IT st) : wdV st k 0 1 = cost st k := by
  unfold wdV
  rw [if_neg (by omega), passes_0 hI hT]
  rfl
set_option maxHeartbeats 4000000 in
set_option maxRecDepth 100000 in
theorem same_b {p : Program} {l : Launch} {e : Jvm.Env} {s : State} {m : MethodId} {args : Array Value} {below : List Frame} {meth : Method} {c : Code} {H : Heap} (hx : p.tables.exec = Jvm.exec) (hb : c.code = cL_same) (hrt : meth.sig.returnType = some .boolean) (hml : c.maxLocals = 13) (hts : ∀ w ∈ ALL, w.before args s = true) (hown : s.vm.findClass RL = some m.cls) (hlocks : meth.locks = false) {E : Env3} (hK : KB E s) {γ α β : Nat → Nat} (hβ : dR β 6) {st : S} {nn : Int} {q z r a mm ee : S} (hI : IB 9999 st) (hT : IT st) (hAC : AC st) (hL : LR st q z r a mm ee)
    (hfc : ∀ x, adIn (fcW E α (γ 0) (γ 1) (γ 2) nn st) x → ¬ adB β x) (hc : va_P E.1 vwCl (fcW E α (γ 0) (γ 1) (γ 2) nn st) H) (hP : va_P E.1 vwCl (lwW E β q z r a mm ee) H) {x : Int32} {locs : List Loc} (hS : va_S (adB β) s.heap H locs) {ls : Array Slot} (hl : lv_has ls 13 [(8, .int (I (nR st 36))), (9, .int (I (uR st 36))), (0, .ref (γ 0)), (1, .int x), (2, .ref (β 0)), (3, .ref (β 1)), (4, .ref (β 2)), (5, .ref (β 3)), (6, .ref (β 4)), (7, .ref (β 5))]) : W p l e rmS s m args below meth c H locs 0 0 (MQ below (qH (some (.int (I 1))) (adB β) (fun H => va_P E.1 vwCl (lwW E β q z r a mm ee) H)) args s 1632 44064 (adB β)) (F0 m 376 ls []) := by
  have hr9 : ∀ k, k < 36 → r k = eT (st (36 + 6 * k)) (st (36 + 6 * k + 1)) := fun k hk => (hL.2.2 k hk).1.1
  have hA9 : ∀ y, adIn (lwW E β q z r a mm ee) y → adB β y := fun y hy => adB_in.mp hy
  have hr1 : rmS.cells = 1632 := rfl
  have hr2 : rmS.slots = 44064 := rfl
  refine iv_iconst hx hb dL_same_376 ?_
  refine lv_istore (lv' := [(10, .int (I _)), (8, .int (I _)), (9, .int (I _)), (0, .ref _), (1, .int _), (2, .ref _), (3, .ref _), (4, .ref _), (5, .ref _), (6, .ref _), (7, .ref _)]) hx hb dL_same_377 hl (by decide) rfl (fun ls hl => ?_)
  have LOOP379 : ∀ (n9 t cc8 ss8 : Nat), (t + n9 = 4) → (cc8 ≤ 408 * t) → (ss8 ≤ 11016 * t) → ∀ (H : Heap) (locs : List Loc) (ls : Array Slot), va_P E.1 vwCl (lwW E β q z r a mm ee) H → va_P E.1 vwCl (fcW E α (γ 0) (γ 1) (γ 2) nn st) H → va_S (adB β) s.heap H locs → lv_has ls 13 [(8, .int (I (nR st 36))), (9, .int (I (uR st 36))), (10, .int (I (t : Int))), (0, .ref (γ 0)), (1, .int x), (2, .ref (β 0)), (3, .ref (β 1)), (4, .ref (β 2)), (5, .ref (β 3)), (6, .ref (β 4)), (7, .ref (β 5))] → W p l e rmS s m args below meth c H locs cc8 ss8 (MQ below (qH (some (.int (I 1))) (adB β) (fun H => va_P E.1 vwCl (lwW E β q z r a mm ee) H)) args s 1632 44064 (adB β)) (F0 m 379 ls []) := by
    intro n9
    induction n9 with
    | zero =>
      intro  t cc8 ss8 hn7 hc8 hs8 H locs ls hP hc hS hl
      obtain rfl : t = 4 := by omega
      refine lv_iload hx hb dL_same_379 (lv_lk hl rfl) ?_
      refine iv_iconst hx hb dL_same_381 ?_
      refine iv_icmp_ge (tgt := 517) hx hb dL_same_382 (by decide) (by omega) (by omega) (fun c_382 => ?_) (fun c_382 => by exfalso; omega)
      have CUT536 : ∀ (H : Heap) (locs : List Loc) (ls : Array Slot), va_P E.1 vwCl (lwW E β q z r a mm ee) H → va_P E.1 vwCl (fcW E α (γ 0) (γ 1) (γ 2) nn st) H → va_S (adB β) s.heap H locs → lv_has ls 13 [(8, .int (I (nR st 36))), (9, .int (I (uR st 36))), (0, .ref (γ 0)), (1, .int x), (2, .ref (β 0)), (3, .ref (β 1)), (4, .ref (β 2)), (5, .ref (β 3)), (6, .ref (β 4)), (7, .ref (β 5))] → W p l e rmS s m args below meth c H locs cc8 ss8 (MQ below (qH (some (.int (I 1))) (adB β) (fun H => va_P E.1 vwCl (lwW E β q z r a mm ee) H)) args s 1632 44064 (adB β)) (F0 m 536 ls [.double (mnD st)]) := by
        intro   H locs ls hP hc hS hl
        refine lv_dstore (lv' := [(10, .double _), (8, .int (I _)), (9, .int (I _)), (0, .ref _), (1, .int _), (2, .ref _), (3, .ref _), (4, .ref _), (5, .ref _), (6, .ref _), (7, .ref _)]) hx hb dL_same_536 hl (by decide) rfl (fun ls hl => ?_)
        refine lv_aload_n hx hb dL_same_538 rfl (lv_lk hl rfl) ?_
        refine call_S (va_runV ⟨hx, hb, hml, hown, hts⟩ (m_X5_mean l E α (γ 0) (γ 1) (γ 2) nn st) (cwV 0 hts (gi_V ml_L_90 im_X5_meanQuestions sl_X5_meanQuestions it_X5 cd_X5_meanQuestions) rfl rfl rfl (by decide +kernel) ⟨Nat.le_of_ble_eq_true rfl, Nat.le_of_ble_eq_true rfl⟩) (pR_V (q0 := 0) (ci := 5) hc hK rfl rfl) rfl rfl hl.1 rfl (lv_room (Nat.le_of_ble_eq_true rfl)) dL_same_539 ⟨by omega, by omega⟩) (fun _ h => h) hS rfl (fun locs hS => ?_)
        refine lv_dload hx hb dL_same_542 (lv_lk hl rfl) ?_
        refine lv_dcmp hx hb dL_same_544 ?_
        rw [dv_cmp (mnD_no st)]
        refine lv_if_ne (tgt := 636) hx hb dL_same_545 (by decide) (fun h9 => absurd rfl h9) (fun _ => ?_)
        refine lv_aload_n hx hb dL_same_548 rfl (lv_lk hl rfl) ?_
        refine call_S (va_runV ⟨hx, hb, hml, hown, hts⟩ (m_X5_time l E α (γ 0) (γ 1) (γ 2) nn st ) (cwV 0 hts (gi_V ml_L_94 im_X5_time sl_X5_time it_X5 cd_X5_time) rfl rfl rfl (by decide +kernel) ⟨Nat.le_of_ble_eq_true rfl, Nat.le_of_ble_eq_true rfl⟩) (pR_V (q0 := 0) (ci := 5) hc hK rfl rfl) rfl rfl hl.1 rfl (lv_room (Nat.le_of_ble_eq_true rfl)) dL_same_549 ⟨by omega, by omega⟩) (fun _ h => h) hS rfl (fun locs hS => ?_)
        refine lv_aload_n hx hb dL_same_552 rfl (lv_lk hl rfl) ?_
        refine iv_iconst hx hb dL_same_553 ?_
        refine iv_iald hx hb hK hP 0 rfl (0) (by omega) (by omega) dL_same_554 ?_
        refine iv_eq (st 0) (hL.1 0 (by omega)) ?_
        refine lv_icmp_ne (tgt := 636) hx hb dL_same_555 (by decide) (fun h9 => absurd rfl h9) (fun _ => ?_)
        refine lv_aload_n hx hb dL_same_558 rfl (lv_lk hl rfl) ?_
        refine call_S (va_runV ⟨hx, hb, hml, hown, hts⟩ (m_X5_solved l E α (γ 0) (γ 1) (γ 2) nn st ) (cwV 0 hts (gi_V ml_L_98 im_X5_solved sl_X5_solved it_X5 cd_X5_solved) rfl rfl rfl (by decide +kernel) ⟨Nat.le_of_ble_eq_true rfl, Nat.le_of_ble_eq_true rfl⟩) (pR_V (q0 := 0) (ci := 5) hc hK rfl rfl) rfl rfl hl.1 rfl (lv_room (Nat.le_of_ble_eq_true rfl)) dL_same_559 ⟨by omega, by omega⟩) (fun _ h => h) hS rfl (fun locs hS => ?_)
        refine lv_aload_n hx hb dL_same_562 rfl (lv_lk hl rfl) ?_
        refine iv_iconst hx hb dL_same_563 ?_
        refine iv_iald hx hb hK hP 0 rfl (1) (by omega) (by omega) dL_same_564 ?_
        refine iv_eq (st 1) (hL.1 1 (by omega)) ?_
        refine lv_icmp_ne (tgt := 636) hx hb dL_same_565 (by decide) (fun h9 => absurd rfl h9) (fun _ => ?_)
        refine lv_aload_n hx hb dL_same_568 rfl (lv_lk hl rfl) ?_
        refine call_S (va_runV ⟨hx, hb, hml, hown, hts⟩ (m_X5_questions l E α (γ 0) (γ 1) (γ 2) nn st ) (cwV 0 hts (gi_V ml_L_101 im_X5_questions sl_X5_questions it_X5 cd_X5_questions) rfl rfl rfl (by decide +kernel) ⟨Nat.le_of_ble_eq_true rfl, Nat.le_of_ble_eq_true rfl⟩) (pR_V (q0 := 0) (ci := 5) hc hK rfl rfl) rfl rfl hl.1 rfl (lv_room (Nat.le_of_ble_eq_true rfl)) dL_same_569 ⟨by omega, by omega⟩) (fun _ h => h) hS rfl (fun locs hS => ?_)
        refine lv_aload_n hx hb dL_same_572 rfl (lv_lk hl rfl) ?_
        refine iv_iconst hx hb dL_same_573 ?_
        refine iv_iald hx hb hK hP 0 rfl (2) (by omega) (by omega) dL_same_574 ?_
        refine iv_eq (st 2) (hL.1 2 (by omega)) ?_
        refine lv_icmp_ne (tgt := 636) hx hb dL_same_575 (by decide) (fun h9 => absurd rfl h9) (fun _ => ?_)
        refine lv_aload_n hx hb dL_same_578 rfl (lv_lk hl rfl) ?_
        refine call_S (va_runV ⟨hx, hb, hml, hown, hts⟩ (m_X5_hits l E α (γ 0) (γ 1) (γ 2) nn st ) (cwV 0 hts (gi_V ml_L_104 im_X5_hits sl_X5_hits it_X5 cd_X5_hits) rfl rfl rfl (by decide +kernel) ⟨Nat.le_of_ble_eq_true rfl, Nat.le_of_ble_eq_true rfl⟩) (pR_V (q0 := 0) (ci := 5) hc hK rfl rfl) rfl rfl hl.1 rfl (lv_room (Nat.le_of_ble_eq_true rfl)) dL_same_579 ⟨by omega, by omega⟩) (fun _ h => h) hS rfl (fun locs hS => ?_)
        refine lv_aload_n hx hb dL_same_582 rfl (lv_lk hl rfl) ?_
        refine iv_iconst hx hb dL_same_583 ?_
        refine iv_iald hx hb hK hP 0 rfl (3) (by omega) (by omega) dL_same_584 ?_
        refine iv_eq (st 3) (hL.1 3 (by omega)) ?_
        refine lv_icmp_ne (tgt := 636) hx hb dL_same_585 (by decide) (fun h9 => absurd rfl h9) (fun _ => ?_)
        refine lv_aload_n hx hb dL_same_588 rfl (lv_lk hl rfl) ?_
        refine call_S (va_runV ⟨hx, hb, hml, hown, hts⟩ (m_X5_remembered l E α (γ 0) (γ 1) (γ 2) nn st 9999 hI) (cwV 0 hts (gi_V ml_L_107 im_X5_remembered sl_X5_remembered it_X5 cd_X5_remembered) rfl rfl rfl (by decide +kernel) ⟨Nat.le_of_ble_eq_true rfl, Nat.le_of_ble_eq_true rfl⟩) (pR_V (q0 := 0) (ci := 5) hc hK rfl rfl) rfl rfl hl.1 rfl (lv_room (Nat.le_of_ble_eq_true rfl)) dL_same_589 ⟨by omega, by omega⟩) (fun _ h => h) hS rfl (fun locs hS => ?_)
        refine lv_iload hx hb dL_same_592 (lv_lk hl rfl) ?_
        refine iv_eq (memo st) (nR_memo st) ?_
        refine lv_icmp_ne (tgt := 636) hx hb dL_same_594 (by decide) (fun h9 => absurd rfl h9) (fun _ => ?_)
        refine lv_aload_n hx hb dL_same_597 rfl (lv_lk hl rfl) ?_
        refine call_S (va_runV ⟨hx, hb, hml, hown, hts⟩ (m_X5_rememberedByAccount l E α (γ 0) (γ 1) (γ 2) nn st ) (cwV 0 hts (gi_V ml_L_110 im_X5_rememberedByAccount sl_X5_rememberedByAccount it_X5 cd_X5_rememberedByAccount) rfl rfl rfl (by decide +kernel) ⟨Nat.le_of_ble_eq_true rfl, Nat.le_of_ble_eq_true rfl⟩) (pR_V (q0 := 0) (ci := 5) hc hK rfl rfl) rfl rfl hl.1 rfl (lv_room (Nat.le_of_ble_eq_true rfl)) dL_same_598 ⟨by omega, by omega⟩) (fun _ h => h) hS rfl (fun locs hS => ?_)
        refine lv_aload_n hx hb dL_same_601 rfl (lv_lk hl rfl) ?_
        refine iv_iconst hx hb dL_same_602 ?_
        refine iv_iald hx hb hK hP 0 rfl (4) (by omega) (by omega) dL_same_603 ?_
        refine lv_aload_n hx hb dL_same_604 rfl (lv_lk hl rfl) ?_
        refine iv_iconst hx hb dL_same_605 ?_
        refine iv_iald hx hb hK hP 0 rfl (5) (by omega) (by omega) dL_same_606 ?_
        refine iv_isub hx hb dL_same_607 ?_
        refine iv_eq (st 4 - st 5) (by rw [hL.1 4 (by omega), hL.1 5 (by omega)]) ?_
        refine lv_icmp_ne (tgt := 636) hx hb dL_same_608 (by decide) (fun h9 => absurd rfl h9) (fun _ => ?_)
        refine lv_iload hx hb dL_same_611 (lv_lk hl rfl) ?_
        refine lv_aload_n hx hb dL_same_613 rfl (lv_lk hl rfl) ?_
        refine iv_iconst hx hb dL_same_614 ?_
        refine iv_iald hx hb hK hP 0 rfl (4) (by omega) (by omega) dL_same_615 ?_
        refine lv_aload_n hx hb dL_same_616 rfl (lv_lk hl rfl) ?_
        refine iv_iconst hx hb dL_same_617 ?_
        refine iv_iald hx hb hK hP 0 rfl (5) (by omega) (by omega) dL_same_618 ?_
        refine iv_isub hx hb dL_same_619 ?_
        refine iv_eq (nR st 36) (by rw [hL.1 4 (by omega), hL.1 5 (by omega), nR_memo]; exact hAC.symm) ?_
        refine lv_icmp_ne (tgt := 636) hx hb dL_same_620 (by decide) (fun h9 => absurd rfl h9) (fun _ => ?_)
        refine lv_aload_n hx hb dL_same_623 rfl (lv_lk hl rfl) ?_
        refine call_S (va_runV ⟨hx, hb, hml, hown, hts⟩ (m_X5_ticksUntilForgetting l E α (γ 0) (γ 1) (γ 2) nn st 9999 hI hT) (cwV 0 hts (gi_V ml_L_113 im_X5_ticksUntilForgetting sl_X5_ticksUntilForgetting it_X5 cd_X5_ticksUntilForgetting) rfl rfl rfl (by decide +kernel) ⟨Nat.le_of_ble_eq_true rfl, Nat.le_of_ble_eq_true rfl⟩) (pR_V (q0 := 0) (ci := 5) hc hK rfl rfl) rfl rfl hl.1 rfl (lv_room (Nat.le_of_ble_eq_true rfl)) dL_same_624 ⟨by omega, by omega⟩) (fun _ h => h) hS rfl (fun locs hS => ?_)
        refine lv_iload hx hb dL_same_627 (lv_lk hl rfl) ?_
        refine iv_eq (untl st) rfl ?_
        refine lv_icmp_ne (tgt := 636) hx hb dL_same_629 (by decide) (fun h9 => absurd rfl h9) (fun _ => ?_)
        refine iv_iconst hx hb dL_same_632 ?_
        refine lv_goto (tgt := 637) hx hb dL_same_633 (by decide) ?_
        refine W.widen (k := 1632) (n := 44064) (by omega) (by omega) ?_
        exact W.zret (ty := .boolean) hx hb hrt (by rfl) (fun t ht hW => ⟨rfl, by rw [ht]; exact hP, hS.F ht⟩) hS.2.2 dL_same_637 hlocks
      refine lv_aload_n hx hb dL_same_517 rfl (lv_lk hl rfl) ?_
      refine iv_iconst hx hb dL_same_518 ?_
      refine iv_iald hx hb hK hP 0 rfl (1) (by omega) (by omega) dL_same_519 ?_
      refine iv_eq (st 1) (hL.1 1 (by omega)) ?_
      refine lv_if_ne (tgt := 527) hx hb dL_same_520 (by decide) (fun h9 => ?_) (fun h9 => ?_)
      · refine lv_aload_n hx hb dL_same_527 rfl (lv_lk hl rfl) ?_
        refine iv_iconst hx hb dL_same_528 ?_
        refine iv_iald hx hb hK hP 0 rfl (2) (by omega) (by omega) dL_same_529 ?_
        refine iv_eq (st 2) (hL.1 2 (by omega)) ?_
        refine lv_i2d hx hb dL_same_530 ?_
        refine lv_aload_n hx hb dL_same_531 rfl (lv_lk hl rfl) ?_
        refine iv_iconst hx hb dL_same_532 ?_
        refine iv_iald hx hb hK hP 0 rfl (1) (by omega) (by omega) dL_same_533 ?_
        refine iv_eq (st 1) (hL.1 1 (by omega)) ?_
        refine lv_i2d hx hb dL_same_534 ?_
        refine lv_ddiv hx hb dL_same_535 (dv_bits _ (dv_no _ _ h9)) ?_
        rw [show FP.ddiv (FP.i2d (I (st 2))) (FP.i2d (I (st 1))) = mnD st from (if_neg h9).symm]
        exact CUT536  _ _ _ hP hc hS (lv_sub hl [0, 1, 3, 4, 5, 6, 7, 8, 9, 10] rfl)
      · refine lv_dconst0 hx hb dL_same_523 ?_
        rw [show FP.dconst0 = mnD st from (if_pos h9).symm]
        refine lv_goto (tgt := 536) hx hb dL_same_524 (by decide) ?_
        exact CUT536  _ _ _ hP hc hS (lv_sub hl [0, 1, 3, 4, 5, 6, 7, 8, 9, 10] rfl)
    | succ n9 ih =>
      intro  t cc8 ss8 hn7 hc8 hs8 H locs ls hP hc hS hl
      have ih3 := ih
      refine lv_iload hx hb dL_same_379 (lv_lk hl rfl) ?_
      refine iv_iconst hx hb dL_same_381 ?_
      refine iv_icmp_ge (tgt := 517) hx hb dL_same_382 (by decide) (by omega) (by omega) (fun c_382 => by exfalso; omega) (fun c_382 => ?_)
      have CUT407 : ∀ (k : Nat), (k < 36) → ∀ (H : Heap) (locs : List Loc) (ls : Array Slot), va_P E.1 vwCl (lwW E β q z r a mm ee) H → va_P E.1 vwCl (fcW E α (γ 0) (γ 1) (γ 2) nn st) H → va_S (adB β) s.heap H locs → lv_has ls 13 [(8, .int (I (nR st 36))), (9, .int (I (uR st 36))), (10, .int (I (t : Int))), (0, .ref (γ 0)), (1, .int x), (2, .ref (β 0)), (3, .ref (β 1)), (4, .ref (β 2)), (5, .ref (β 3)), (6, .ref (β 4)), (7, .ref (β 5))] → W p l e rmS s m args below meth c H locs cc8 ss8 (MQ below (qH (some (.int (I 1))) (adB β) (fun H => va_P E.1 vwCl (lwW E β q z r a mm ee) H)) args s 1632 44064 (adB β)) (F0 m 407 ls [.int (I (k : Int))]) := by
        intro k hk H locs ls hP hc hS hl
        refine lv_istore (lv' := [(11, .int (I _)), (8, .int (I _)), (9, .int (I _)), (10, .int (I _)), (0, .ref _), (1, .int _), (2, .ref _), (3, .ref _), (4, .ref _), (5, .ref _), (6, .ref _), (7, .ref _)]) hx hb dL_same_407 hl (by decide) rfl (fun ls hl => ?_)
        refine iv_iconst hx hb dL_same_409 ?_
        refine lv_istore (lv' := [(12, .int (I _)), (11, .int (I _)), (8, .int (I _)), (9, .int (I _)), (10, .int (I _)), (0, .ref _), (1, .int _), (2, .ref _), (3, .ref _), (4, .ref _), (5, .ref _), (6, .ref _), (7, .ref _)]) hx hb dL_same_410 hl (by decide) rfl (fun ls hl => ?_)
        have LOOP412 : ∀ (n9 u cc9 ss9 : Nat), (u + n9 = 100) → (∀ v, v < u → ¬ wouldIn st k ((v : Nat) : Int) = truthF 7 st k) → (cc9 ≤ 408 * t + 4 * u) → (ss9 ≤ 11016 * t + 108 * u) → ∀ (H : Heap) (locs : List Loc) (ls : Array Slot), va_P E.1 vwCl (lwW E β q z r a mm ee) H → va_P E.1 vwCl (fcW E α (γ 0) (γ 1) (γ 2) nn st) H → va_S (adB β) s.heap H locs → lv_has ls 13 [(8, .int (I (nR st 36))), (9, .int (I (uR st 36))), (10, .int (I (t : Int))), (11, .int (I (k : Int))), (12, .int (I (u : Int))), (0, .ref (γ 0)), (1, .int x), (2, .ref (β 0)), (3, .ref (β 1)), (4, .ref (β 2)), (5, .ref (β 3)), (6, .ref (β 4)), (7, .ref (β 5))] → W p l e rmS s m args below meth c H locs cc9 ss9 (MQ below (qH (some (.int (I 1))) (adB β) (fun H => va_P E.1 vwCl (lwW E β q z r a mm ee) H)) args s 1632 44064 (adB β)) (F0 m 412 ls []) := by
          intro n9
          induction n9 with
          | zero =>
            intro  u cc9 ss9 hn8 hne hcc hss H locs ls hP hc hS hl
            exfalso
            have h9 := would_99 hI hT (by omega) hk
            exact hne 99 (by omega) h9
          | succ n9 ih =>
            intro  u cc9 ss9 hn8 hne hcc hss H locs ls hP hc hS hl
            have hw9 := solves_rng 7 (IB_passes hI (u : Int) (by omega) 10100 (by omega)) k hk
            have hw9 : -2 ≤ wouldIn st k ((u : Nat) : Int) ∧ wouldIn st k ((u : Nat) : Int) ≤ 99 := hw9
            have ht9 := truth_rng hI 7 k hk
            refine lv_iload hx hb dL_same_412 (lv_lk hl rfl) ?_
            refine lv_iload hx hb dL_same_414 (lv_lk hl rfl) ?_
            refine iv_iconst hx hb dL_same_416 ?_
            refine lv_aload_n hx hb dL_same_417 rfl (lv_lk hl rfl) ?_
            refine lv_aload_n hx hb dL_same_418 rfl (lv_lk hl rfl) ?_
            refine lv_aload hx hb dL_same_419 (lv_lk hl rfl) ?_
            refine lv_aload hx hb dL_same_421 (lv_lk hl rfl) ?_
            refine lv_aload hx hb dL_same_423 (lv_lk hl rfl) ?_
            refine lv_aload hx hb dL_same_425 (lv_lk hl rfl) ?_
            refine call_P (va_runS ⟨hx, hb, hml, hown, hts⟩ (m_L_would l E β hβ 9999 st q z r a mm ee hI hL k hk ((u : Nat) : Int) 0 10100 (by omega) (by omega) (by omega)) (va_cwS 9 hts (gi_S ml_L_77 st_L_would it_L cd_L_would) rfl rfl rfl (by decide +kernel) ⟨Nat.le_of_ble_eq_true rfl, Nat.le_of_ble_eq_true rfl⟩) (pR_S hP hK) rfl rfl hl.1 rfl (lv_room (Nat.le_of_ble_eq_true rfl)) dL_same_427 ⟨by omega, by omega⟩) hA9 hS rfl (fun H locs k1 k2 hP1 hS => ?_)
            have hc : va_P E.1 vwCl (fcW E α (γ 0) (γ 1) (γ 2) nn st) H := P_onA (A := fun q => ¬ adB β q) hfc hc (fun q hq hn => k2 q hq (fun h9 => hn (adB_in.mp h9)))
            have hP : va_P E.1 vwCl (lwW E β q z r a mm ee) H := hP1
            refine iv_eq (wouldIn st k ((u : Nat) : Int)) (if_pos rfl) ?_
            refine lv_iload hx hb dL_same_430 (lv_lk hl rfl) ?_
            refine lv_aload hx hb dL_same_432 (lv_lk hl rfl) ?_
            refine call_S (va_runS ⟨hx, hb, hml, hown, hts⟩ (m_L_truth l E (β 2) r 9999 st hI hr9 k hk) (va_cwS 2 hts (gi_S ml_L_66 st_L_truth it_L cd_L_truth) rfl rfl rfl (by decide +kernel) ⟨Nat.le_of_ble_eq_true rfl, Nat.le_of_ble_eq_true rfl⟩) (pR_S (hP.sub (ws' := [(β 2, iA E 36 r)]) [2] rfl) hK) rfl rfl hl.1 rfl (lv_room (Nat.le_of_ble_eq_true rfl)) dL_same_434 ⟨by omega, by omega⟩) (fun _ h => h) hS rfl (fun locs hS => ?_)
            refine iv_icmp_eq (tgt := 446) hx hb dL_same_437 (by decide) (by omega) (by omega) (fun c_437 => ?_) (fun c_437 => ?_)
            · have hu9 : u < 100 := by omega
              have hwt : waitF 100 st k 0 = u := wait_at hu9 hne c_437
              refine lv_aload_n hx hb dL_same_446 rfl (lv_lk hl rfl) ?_
              refine lv_iload hx hb dL_same_447 (lv_lk hl rfl) ?_
              refine call_S (va_runV ⟨hx, hb, hml, hown, hts⟩ (m_X5_wouldSolve_ok l E α (γ 0) (γ 1) (γ 2) nn st 9999 hI hT k hk) (cwV 1 hts (gi_V ml_L_81 im_X5_wouldSolve sl_X5_wouldSolve it_X5 cd_X5_wouldSolve) rfl rfl rfl (by decide +kernel) ⟨Nat.le_of_ble_eq_true rfl, Nat.le_of_ble_eq_true rfl⟩) (pR_V (q0 := 0) (ci := 5) hc hK rfl rfl) rfl rfl hl.1 rfl (lv_room (Nat.le_of_ble_eq_true rfl)) dL_same_449 ⟨by omega, by omega⟩) (fun _ h => h) hS rfl (fun locs hS => ?_)
              refine lv_iload hx hb dL_same_452 (lv_lk hl rfl) ?_
              refine iv_iconst hx hb dL_same_454 ?_
              refine iv_iconst hx hb dL_same_455 ?_
              refine lv_aload_n hx hb dL_same_456 rfl (lv_lk hl rfl) ?_
              refine lv_aload_n hx hb dL_same_457 rfl (lv_lk hl rfl) ?_
              refine lv_aload hx hb dL_same_458 (lv_lk hl rfl) ?_
              refine lv_aload hx hb dL_same_460 (lv_lk hl rfl) ?_
              refine lv_aload hx hb dL_same_462 (lv_lk hl rfl) ?_
              refine lv_aload hx hb dL_same_464 (lv_lk hl rfl) ?_
              refine call_P (va_runS ⟨hx, hb, hml, hown, hts⟩ (m_L_would l E β hβ 9999 st q z r a mm ee hI hL k hk 0 0 10100 (by omega) (by omega) (by omega)) (va_cwS 9 hts (gi_S ml_L_77 st_L_would it_L cd_L_would) rfl rfl rfl (by decide +kernel) ⟨Nat.le_of_ble_eq_true rfl, Nat.le_of_ble_eq_true rfl⟩) (pR_S hP hK) rfl rfl hl.1 rfl (lv_room (Nat.le_of_ble_eq_true rfl)) dL_same_466 ⟨by omega, by omega⟩) hA9 hS rfl (fun H locs k1 k2 hP1 hS => ?_)
              have hc : va_P E.1 vwCl (fcW E α (γ 0) (γ 1) (γ 2) nn st) H := P_onA (A := fun q => ¬ adB β q) hfc hc (fun q hq hn => k2 q hq (fun h9 => hn (adB_in.mp h9)))
              have hP : va_P E.1 vwCl (lwW E β q z r a mm ee) H := hP1
              refine iv_eq (would st k) (wd_00 hI hT) ?_
              refine lv_icmp_ne (tgt := 509) hx hb dL_same_469 (by decide) (fun h9 => absurd rfl h9) (fun _ => ?_)
              refine lv_aload_n hx hb dL_same_472 rfl (lv_lk hl rfl) ?_
              refine lv_iload hx hb dL_same_473 (lv_lk hl rfl) ?_
              refine call_S (va_runV ⟨hx, hb, hml, hown, hts⟩ (m_X5_costOf_ok l E α (γ 0) (γ 1) (γ 2) nn st 9999 hI k hk) (cwV 1 hts (gi_V ml_L_84 im_X5_costOf sl_X5_costOf it_X5 cd_X5_costOf) rfl rfl rfl (by decide +kernel) ⟨Nat.le_of_ble_eq_true rfl, Nat.le_of_ble_eq_true rfl⟩) (pR_V (q0 := 0) (ci := 5) hc hK rfl rfl) rfl rfl hl.1 rfl (lv_room (Nat.le_of_ble_eq_true rfl)) dL_same_475 ⟨by omega, by omega⟩) (fun _ h => h) hS rfl (fun locs hS => ?_)
              refine lv_iload hx hb dL_same_478 (lv_lk hl rfl) ?_
              refine iv_iconst hx hb dL_same_480 ?_
              refine iv_iconst hx hb dL_same_481 ?_
              refine lv_aload_n hx hb dL_same_482 rfl (lv_lk hl rfl) ?_
              refine lv_aload_n hx hb dL_same_483 rfl (lv_lk hl rfl) ?_
              refine lv_aload hx hb dL_same_484 (lv_lk hl rfl) ?_
              refine lv_aload hx hb dL_same_486 (lv_lk hl rfl) ?_
              refine lv_aload hx hb dL_same_488 (lv_lk hl rfl) ?_
              refine lv_aload hx hb dL_same_490 (lv_lk hl rfl) ?_
              refine call_P (va_runS ⟨hx, hb, hml, hown, hts⟩ (m_L_would l E β hβ 9999 st q z r a mm ee hI hL k hk 0 1 10100 (by omega) (by omega) (by omega)) (va_cwS 9 hts (gi_S ml_L_77 st_L_would it_L cd_L_would) rfl rfl rfl (by decide +kernel) ⟨Nat.le_of_ble_eq_true rfl, Nat.le_of_ble_eq_true rfl⟩) (pR_S hP hK) rfl rfl hl.1 rfl (lv_room (Nat.le_of_ble_eq_true rfl)) dL_same_492 ⟨by omega, by omega⟩) hA9 hS rfl (fun H locs k1 k2 hP1 hS => ?_)
              have hc : va_P E.1 vwCl (fcW E α (γ 0) (γ 1) (γ 2) nn st) H := P_onA (A := fun q => ¬ adB β q) hfc hc (fun q hq hn => k2 q hq (fun h9 => hn (adB_in.mp h9)))
              have hP : va_P E.1 vwCl (lwW E β q z r a mm ee) H := hP1
              refine iv_eq (cost st k) (wd_01 hI hT) ?_
              refine lv_icmp_ne (tgt := 509) hx hb dL_same_495 (by decide) (fun h9 => absurd rfl h9) (fun _ => ?_)
              refine lv_aload_n hx hb dL_same_498 rfl (lv_lk hl rfl) ?_
              refine lv_iload hx hb dL_same_499 (lv_lk hl rfl) ?_
              refine call_S (va_runV ⟨hx, hb, hml, hown, hts⟩ (m_X5_ticksUntilTruth_ok l E α (γ 0) (γ 1) (γ 2) nn st 9999 hI hT (by omega) k hk) (cwV 1 hts (gi_V ml_L_87 im_X5_ticksUntilTruth sl_X5_ticksUntilTruth it_X5 cd_X5_ticksUntilTruth) rfl rfl rfl (by decide +kernel) ⟨Nat.le_of_ble_eq_true rfl, Nat.le_of_ble_eq_true rfl⟩) (pR_V (q0 := 0) (ci := 5) hc hK rfl rfl) rfl rfl hl.1 rfl (lv_room (Nat.le_of_ble_eq_true rfl)) dL_same_501 ⟨by omega, by omega⟩) (fun _ h => h) hS rfl (fun locs hS => ?_)
              refine lv_iload hx hb dL_same_504 (lv_lk hl rfl) ?_
              refine iv_eq (((waitF 100 st k 0 : Nat) : Int)) (by rw [hwt]) ?_
              refine lv_icmp_eq (tgt := 511) hx hb dL_same_506 (by decide) (fun _ => ?_) (fun h9 => absurd rfl h9)
              refine iv_iinc (k := 2) hx hb dL_same_511 hl rfl (((t + 1 : Nat) : Int)) (by omega) (by decide) [(10, .int (I _)), (8, .int (I _)), (9, .int (I _)), (11, .int (I _)), (12, .int (I _)), (0, .ref _), (1, .int _), (2, .ref _), (3, .ref _), (4, .ref _), (5, .ref _), (6, .ref _), (7, .ref _)] rfl (fun ls hl => ?_)
              refine lv_goto (tgt := 379) hx hb dL_same_514 (by decide) ?_
              exact ih3 (t + 1) _ _ (by omega) (by omega) (by omega) H locs ls hP hc hS (lv_sub hl [1, 2, 0, 5, 6, 7, 8, 9, 10, 11, 12] rfl)
            · refine iv_iinc (k := 4) hx hb dL_same_440 hl rfl (((u + 1 : Nat) : Int)) (by omega) (by decide) [(12, .int (I _)), (8, .int (I _)), (9, .int (I _)), (10, .int (I _)), (11, .int (I _)), (0, .ref _), (1, .int _), (2, .ref _), (3, .ref _), (4, .ref _), (5, .ref _), (6, .ref _), (7, .ref _)] rfl (fun ls hl => ?_)
              refine lv_goto (tgt := 412) hx hb dL_same_443 (by decide) ?_
              exact ih (u + 1) _ _ (by omega) (fun v hv => by by_cases h9 : v = u; (· subst h9; exact c_437); (· exact hne v (by omega))) (by omega) (by omega) H locs ls hP hc hS (lv_sub hl [1, 2, 3, 4, 0, 5, 6, 7, 8, 9, 10, 11, 12] rfl)
        exact LOOP412 100 0 _ _ (by omega) (fun v hv => absurd hv (Nat.not_lt_zero v)) (by omega) (by omega) _ _ _ hP hc hS (lv_sub hl [2, 3, 4, 1, 0, 5, 6, 7, 8, 9, 10, 11, 12] rfl)
      refine lv_iload_n hx hb dL_same_385 rfl (lv_lk hl rfl) ?_
      refine iv_iconst hx hb dL_same_386 ?_
      refine lv_iload hx hb dL_same_387 (lv_lk hl rfl) ?_
      refine iv_imul hx hb dL_same_389 ?_
      refine lv_ishr hx hb dL_same_390 ?_
      refine lv_iload hx hb dL_same_391 (lv_lk hl rfl) ?_
      refine iv_iconst hx hb dL_same_393 ?_
      refine iv_icmp_ge (tgt := 402) hx hb dL_same_394 (by decide) (by omega) (by omega) (fun c_394 => ?_) (fun c_394 => ?_)
      · refine iv_bipush hx hb dL_same_402 (by decide +kernel) ?_
        refine iv_eq (((9 : Nat) : Int)) rfl ?_
        refine call_E (va_runS ⟨hx, hb, hml, hown, hts⟩ (m_L_low l E _ 9 (by omega)) (va_cwS 2 hts (gi_S ml_L_73 st_L_low it_L cd_L_low) rfl rfl rfl (by decide +kernel) ⟨Nat.le_of_ble_eq_true rfl, Nat.le_of_ble_eq_true rfl⟩) (pR_S (hP.sub (ws' := []) [] rfl) hK) rfl rfl hl.1 rfl (lv_room (Nat.le_of_ble_eq_true rfl)) dL_same_404 ⟨by omega, by omega⟩) (fun _ h => h) hS (fun v9 locs hv9 hS => ?_)
        obtain ⟨k9, hk9, rfl⟩ := hv9
        exact CUT407 k9 (by omega) _ _ _ hP hc hS (lv_sub hl [0, 1, 2, 3, 4, 5, 6, 7, 8, 9, 10] rfl)
      · refine iv_bipush hx hb dL_same_397 (by decide +kernel) ?_
        refine lv_goto (tgt := 404) hx hb dL_same_399 (by decide) ?_
        refine iv_eq (((36 : Nat) : Int)) rfl ?_
        refine call_E (va_runS ⟨hx, hb, hml, hown, hts⟩ (m_L_low l E _ 36 (by omega)) (va_cwS 2 hts (gi_S ml_L_73 st_L_low it_L cd_L_low) rfl rfl rfl (by decide +kernel) ⟨Nat.le_of_ble_eq_true rfl, Nat.le_of_ble_eq_true rfl⟩) (pR_S (hP.sub (ws' := []) [] rfl) hK) rfl rfl hl.1 rfl (lv_room (Nat.le_of_ble_eq_true rfl)) dL_same_404 ⟨by omega, by omega⟩) (fun _ h => h) hS (fun v9 locs hv9 hS => ?_)
        obtain ⟨k9, hk9, rfl⟩ := hv9
        exact CUT407 k9 (by omega) _ _ _ hP hc hS (lv_sub hl [0, 1, 2, 3, 4, 5, 6, 7, 8, 9, 10] rfl)
  exact LOOP379 4 0 _ _ (by omega) (by omega) (by omega) _ _ _ hP hc hS (lv_sub hl [1, 2, 0, 3, 4, 5, 6, 7, 8, 9, 10] rfl)
theorem m_L_same (l : Launch) (E : Env3) (γ α β : Nat → Nat) (hβ : dR β 6) (A : Nat → Prop) (hAB : ∀ x, A x → ¬ adB β x) (st : S) (sv : Nat → S) (n N : Nat) (tx : S) (q z r a mm ee : S) (hI : IB 9999 st) (hT : IT st) (hAC : AC st) (hL : LR st q z r a mm ee) (x : Int32) : Met l yL_same (Cond.code yL_same cL_same 13 (some .boolean) :: ALL) rmS (pP [.ref (γ 0), .int x, .ref (β 0), .ref (β 1), .ref (β 2), .ref (β 3), .ref (β 4), .ref (β 5)] E (fun H => CP E γ α A st sv n N tx H ∧ va_P E.1 vwCl (lwW E β q z r a mm ee) H)) (qH (some (.int (I 1))) (adB β) (fun H => va_P E.1 vwCl (lwW E β q z r a mm ee) H)) 1632 44064 (adB β) := by
  refine mk_p (by decide) rfl (Nat.le_of_ble_eq_true rfl) ?_
  intro p e s m args below meth c hx hb hrt hml hts hown hlocks hK hI9 ls hl
  obtain ⟨⟨β', ac, fs, fn, hN, hA, hPw⟩, hP⟩ := hI9
  have hown : s.vm.findClass RL = some m.cls := hown
  have hc : va_P E.1 vwCl (fcW E α (γ 0) (γ 1) (γ 2) (n : Int) st) s.heap := P_mono fc_mem hPw
  have hfc : ∀ y, adIn (fcW E α (γ 0) (γ 1) (γ 2) (n : Int) st) y → ¬ adB β y := by
    rintro y ⟨j, e9, hj⟩
    obtain ⟨i, hi⟩ := List.mem_iff_getElem?.mp (fc_mem (E := E) (γ := γ) (α := α) (β := β') (L := [β' 0 0, β' 1 0, β' 2 0, β' 3 0, β' 4 0, β' 5 0]) (st := st) (sv := sv) (n := (n : Int)) (N := (N : Int)) (ac := ac) (tx := tx) (fs := fs) (fn := fn) _ (List.mem_of_getElem? hj))
    exact hAB y ((hA y).mp (adP_in.mpr ⟨i, e9, hi⟩))
  refine same_a hx hb hml hts hown hK hI hT hL hc hP (x := x) (va_S.rf (A := adB β) (H0 := s.heap)) hl (fun locs ls hS hl => ?_)
  exact same_b hx hb hrt hml hts hown hlocks hK hβ hI hT hAC hL hfc hc hP hS hl
