/-! the class: State, fourth part: what solving would cost; written by cls.py -/
theorem hb_shr {hm q : Nat} (hh : hm < 2 ^ 36) (hq : q < 36) : lN hm >>> ((I (q : Int)).toInt64 &&& 63) = lN (hm / 2 ^ q) := by
  rw [show (I (q : Int)) = nI q from (Int32.ofInt_eq_ofNat), wb_c q (by omega)]
  refine pf_shr (d := q) ?_ (by omega)
  rw [wb_tb, wb_sm q (by omega), BitVec.toNat_ofNat]
  exact Nat.mod_eq_of_lt (by omega)
theorem wb_a1 {n : Nat} (hn : n < 2 ^ 64) : lN n &&& 1 = lN (n % 2) := wb_mask (k := 1) hn (by decide)
theorem hb_and {hm q : Nat} (hh : hm < 2 ^ 36) : lN (hm / 2 ^ q) &&& lN 1 = lN (hm / 2 ^ q % 2) := by
  have := Nat.div_le_self hm (2 ^ q)
  exact wb_a1 (by omega)
theorem hb_cmp {hm q : Nat} : lg_cmp (lN (hm / 2 ^ q % 2)) (lN 0) = I ((hm / 2 ^ q % 2 : Nat) : Int) := by
  rcases Nat.mod_two_eq_zero_or_one (hm / 2 ^ q) with h | h <;> rw [h] <;> rfl
theorem hb_tb {hm q : Nat} : ((hm / 2 ^ q % 2 : Nat) : Int) = if hm.testBit q = true then 1 else 0 := by
  rw [Nat.testBit_eq_decide_div_mod_eq]
  rcases Nat.mod_two_eq_zero_or_one (hm / 2 ^ q) with h | h <;> rw [h] <;> rfl
theorem hb_shl {q : Nat} (hq : q < 36) : lN 1 <<< ((I (q : Int)).toInt64 &&& 63) = lN (2 ^ q) := by
  rw [show (I (q : Int)) = nI q from (Int32.ofInt_eq_ofNat), wb_shl 1 (by omega), Nat.one_mul]
theorem hb_p {q : Nat} (hq : q < 36) : 2 ^ q < 2 ^ 36 := Nat.pow_lt_pow_right (by decide) hq
theorem hb_lt {hm q : Nat} (hh : hm < 2 ^ 36) (hq : q < 36) : hm ||| 2 ^ q < 2 ^ 36 := Nat.or_lt_two_pow hh (hb_p hq)
theorem hb_or {hm q : Nat} (hh : hm < 2 ^ 36) (hq : q < 36) : lN hm ||| lN (2 ^ q) = lN (hm ||| 2 ^ q) := by
  have := hb_p hq
  exact wb_or (by omega) (by omega)
theorem popc_or : ∀ m : Fin 64, ∀ z : Fin 6, m.val.testBit z.val = false → popc (m.val ||| 2 ^ z.val) = popc m.val + 1 := by decide +kernel
theorem popc_maskF : ∀ (L : List Nat) (m : Nat), m < 64 → (∀ z ∈ L, z < 6) → L.Nodup → (∀ z ∈ L, m.testBit z = false) → popc (maskF L m) = popc m + L.length
  | [], m, _, _, _, _ => rfl
  | z :: L, m, hm, hL, hn, ht => by
    have hz := hL z List.mem_cons_self
    rw [List.nodup_cons] at hn
    have h1 : popc (m ||| 2 ^ z) = popc m + 1 := popc_or ⟨m, hm⟩ ⟨z, hz⟩ (ht z List.mem_cons_self)
    show popc (maskF L (m ||| 2 ^ z)) = _
    rw [popc_maskF L (m ||| 2 ^ z) (mask_lt hm hz) (fun q hq => hL q (List.mem_cons_of_mem _ hq)) hn.2 (fun q hq => by
      rw [mask_tb, ht q (List.mem_cons_of_mem _ hq)]
      have : ¬ z = q := fun e => hn.1 (e ▸ hq)
      simp [this]), h1, List.length_cons]
    omega
theorem popc_mask (L : List Nat) (hL : ∀ z ∈ L, z < 6) (hn : L.Nodup) : popc (maskF L 0) = L.length := by
  rw [popc_maskF L 0 (by decide) hL hn (fun z _ => Nat.zero_testBit z)]
  show 0 + L.length = L.length
  omega
theorem mask_oor (mr : Nat) (L : List Nat) (hmr : mr < 64) (hL : ∀ z ∈ L, z < 6) : I (mr : Int) ||| I ((maskF L 0 : Nat) : Int) = I ((maskF L mr : Nat) : Int) := by
  have h := mask_oo ⟨mr, hmr⟩ ⟨maskF L 0, maskF_lt L 0 (by decide) hL⟩
  rw [show I (mr : Int) ||| I ((maskF L 0 : Nat) : Int) = I ((mr ||| maskF L 0 : Nat) : Int) from h]
  congr 2
  apply Nat.eq_of_testBit_eq
  intro q
  rw [Nat.testBit_or, maskF_tb, maskF_tb, Nat.zero_testBit, Bool.false_or]
theorem chain_nd {T : Int} {s : S} (h : IB T s) (rb : Nat → Bool) : ∀ (n z : Nat), z < 6 → (chainB n s rb z).Nodup
  | 0, _, _ => List.nodup_nil
  | n + 1, z, hz => by
    by_cases c : z = 0 ∨ s (6 + 5 * z + 3) ≠ 0 ∨ rb z = true
    · rw [chainB_e c]; exact List.nodup_nil
    · rw [chainB_s c]
      have hp := IB_par h (z := z) (by omega) hz
      exact List.nodup_cons.mpr ⟨fun hm => by have := chain_lt h rb n (par s z) (by omega) z hm; omega, chain_nd h rb n (par s z) (by omega)⟩
theorem tk9 {T : Int} {s st : S} (h : IB T s) {q : Nat} (hq : q < 36) (hv : kV s q = kV st q ∧ vV s q = vV st q) : take s q (36 + 6 * q + 3) = kV st q ∧ take s q (36 + 6 * q + 4) = vV st q := by
  obtain ⟨a, b⟩ := take_own h hq
  exact ⟨a.trans hv.1, b.trans hv.2⟩
set_option maxHeartbeats 4000000 in
set_option maxRecDepth 100000 in
theorem m_X3_countQuestions (l : Launch) (E : Env3) (α : Nat → Nat) (st : S) (T : Int) (hI : IB T st) (r : Nat) (hr : r < 36) : Met l yX3_countQuestions (Cond.code yX3_countQuestions cX3_countQuestions 10 (some .int) :: ALL) ({ frames := 2, cells := 0, slots := 0, locals := 47 }) (pR [.ref (α 0), .int (I (r : Int))] E (stW E α st)) (qS (some (.int (I (cost st r))))) 0 0 (fun _ => False) := by
  refine mk_met (by decide) rfl (Nat.le_of_ble_eq_true rfl) ?_
  intro p e s m args below meth c hx hb hrt hml hts hown hlocks hnm hP hK ls hl
  have hown : s.vm.findClass RX3 = some m.cls := hown
  have hl : lv_has ls 10 [(0, .ref (α 0)), (1, .int (I (r : Int)))] := hl
  have hS : va_S (fun _ => False) s.heap s.heap [] := va_S.rf
  refine iv_iconst hx hb dX3_countQuestions_0 ?_
  refine iv_eq (st 2 - st 2) ((Int.sub_self _).symm) ?_
  refine lv_istore_n (lv' := [(2, .int (I _)), (0, .ref _), (1, .int (I _))]) hx hb dX3_countQuestions_1 rfl hl (by decide) rfl (fun ls hl => ?_)
  refine iv_iconst hx hb dX3_countQuestions_2 ?_
  refine lv_istore_n (lv' := [(3, .int (I _)), (2, .int (I _)), (0, .ref _), (1, .int (I _))]) hx hb dX3_countQuestions_3 rfl hl (by decide) rfl (fun ls hl => ?_)
  refine lv_lconst (v := lN 0) hx hb dX3_countQuestions_4 rfl ?_
  refine lv_lstore (lv' := [(4, .long _), (3, .int (I _)), (2, .int (I _)), (0, .ref _), (1, .int (I _))]) hx hb dX3_countQuestions_5 hl (by decide) rfl (fun ls hl => ?_)
  refine lv_iload_n hx hb dX3_countQuestions_7 rfl (lv_lk hl rfl) ?_
  refine lv_istore (lv' := [(6, .int (I _)), (4, .long _), (3, .int (I _)), (2, .int (I _)), (0, .ref _), (1, .int (I _))]) hx hb dX3_countQuestions_8 hl (by decide) rfl (fun ls hl => ?_)
  refine iv_iconst hx hb dX3_countQuestions_10 ?_
  refine lv_istore (lv' := [(7, .int (I _)), (6, .int (I _)), (4, .long _), (3, .int (I _)), (2, .int (I _)), (0, .ref _), (1, .int (I _))]) hx hb dX3_countQuestions_11 hl (by decide) rfl (fun ls hl => ?_)
  have LOOP13 : ∀ (n9 i : Nat) (s1 : S) (q mr hm : Nat), (q < 36) → (i + n9 = 7) → (Rel T st s1 mr hm) → (mr < 64) → (hm < 2 ^ 36) → ((solvesF n9 s1 q).1 2 = (solvesF 7 st r).1 2) → ∀ (locs : List Loc) (ls : Array Slot), va_S (fun _ => False) s.heap s.heap locs → lv_has ls 10 [(0, .ref (α 0)), (1, .int (I (r : Int))), (2, .int (I (s1 2 - st 2))), (3, .int (I (mr : Int))), (4, .long (lN hm)), (6, .int (I (q : Int))), (7, .int (I (i : Int)))] → W p l e ({ frames := 2, cells := 0, slots := 0, locals := 47 }) s m args below meth c s.heap locs 0 0 (MQ below (qS (some (.int (I (cost st r))))) args s 0 0 (fun _ => False)) (F0 m 13 ls []) := by
    intro n9
    induction n9 with
    | zero =>
      intro  i s1 q mr hm hq hi9 hR hmr hh he9 locs ls hS hl
      refine lv_iload hx hb dX3_countQuestions_13 (lv_lk hl rfl) ?_
      refine iv_bipush hx hb dX3_countQuestions_15 (by decide +kernel) ?_
      refine iv_icmp_gt (tgt := 138) hx hb dX3_countQuestions_17 (by decide) (by omega) (by omega) (fun c_17 => ?_) (fun c_17 => by exfalso; omega)
      refine lv_iload_n hx hb dX3_countQuestions_138 rfl (lv_lk hl rfl) ?_
      refine iv_eq (cost st r) (by show _ = (solvesF 7 st r).1 2 - st 2; rw [← he9]; rfl) ?_
      exact W.iret hx hb hrt (fun t ht hW => ⟨rfl, ht⟩) hS.2.2 dX3_countQuestions_139 hlocks
    | succ n9 ih =>
      intro  i s1 q mr hm hq hi9 hR hmr hh he9 locs ls hS hl
      have t1 := (hI.2.2.2 q hq).1
      unfold triT at t1
      have t3 := (hI.2.2.2 q hq).2
      unfold triM at t3
      refine lv_iload hx hb dX3_countQuestions_13 (lv_lk hl rfl) ?_
      refine iv_bipush hx hb dX3_countQuestions_15 (by decide +kernel) ?_
      refine iv_icmp_gt (tgt := 138) hx hb dX3_countQuestions_17 (by decide) (by omega) (by omega) (fun c_17 => by exfalso; omega) (fun c_17 => ?_)
      refine lv_aload_n hx hb dX3_countQuestions_20 rfl (lv_lk hl rfl) ?_
      refine va_get (D := E.1) (ci := 3) hx hb hts inX3 hown hK.1 hP 0 rfl rfl 3 (by decide) (hts _ fl_X3_25) (fun _ h9 => h9) rfl dX3_countQuestions_21 ?_
      refine lv_iload hx hb dX3_countQuestions_24 (lv_lk hl rfl) ?_
      refine call_S (va_runV ⟨hx, hb, hml, hown, hts⟩ (m_X2_kind l E (α 9) (α 10) (α 11) (α 12) (mK st) (mV st) (mE st) q (by omega)) (cwV 1 hts (gi_V ml_X3_64 im_X2_kind sl_X2_kind it_X2 cd_X2_kind) rfl rfl rfl (by decide +kernel) ⟨Nat.le_of_ble_eq_true rfl, Nat.le_of_ble_eq_true rfl⟩) (pR_V (q0 := 0) (ci := 2) (hP.sub (ws' := (repW E (α 9) (α 10) (α 11) (α 12) (mK st) (mV st) (mE st))) [9, 10, 11, 12] rfl) hK rfl rfl) rfl rfl hl.1 rfl (lv_room (Nat.le_of_ble_eq_true rfl)) dX3_countQuestions_26 ⟨Nat.le_of_ble_eq_true rfl, Nat.le_of_ble_eq_true rfl⟩) (fun _ h => h) hS rfl (fun locs hS => ?_)
      refine iv_eq (st (36 + 6 * q + 3)) (rfl) ?_
      refine iv_if_eq (tgt := 36) hx hb dX3_countQuestions_29 (by decide) (by omega) (fun c_29 => ?_) (fun c_29 => ?_)
      · have hkn : st (36 + 6 * q + 3) = 0 := c_29
        refine iv_iconst hx hb dX3_countQuestions_36 ?_
        refine lv_istore (lv' := [(8, .int (I _)), (0, .ref _), (1, .int (I _)), (2, .int (I _)), (3, .int (I _)), (4, .long _), (6, .int (I _)), (7, .int (I _))]) hx hb dX3_countQuestions_37 hl (by decide) rfl (fun ls hl => ?_)
        refine lv_iload hx hb dX3_countQuestions_39 (lv_lk hl rfl) ?_
        refine iv_if_ne (tgt := 92) hx hb dX3_countQuestions_41 (by decide) (by omega) (fun c_41 => by exfalso; omega) (fun c_41 => ?_)
        refine lv_lload hx hb dX3_countQuestions_44 (lv_lk hl rfl) ?_
        refine lv_iload hx hb dX3_countQuestions_46 (lv_lk hl rfl) ?_
        refine lv_lshr (v := lN (hm / 2 ^ q)) hx hb dX3_countQuestions_48 (hb_shr hh hq) ?_
        refine lv_lconst (v := lN 1) hx hb dX3_countQuestions_49 rfl ?_
        refine lv_land hx hb dX3_countQuestions_50 ?_
        rw [hb_and hh]
        refine lv_lconst (v := lN 0) hx hb dX3_countQuestions_51 rfl ?_
        refine W.lcmp hx hb dX3_countQuestions_52 ?_
        rw [hb_cmp]
        by_cases hb9 : hm.testBit q = true
        · refine iv_eq (1) (by rw [hb_tb, if_pos hb9]) ?_
          refine iv_if_ne (tgt := 92) hx hb dX3_countQuestions_53 (by decide) (by omega) (fun c_53 => ?_) (fun c_53 => by exfalso; omega)
          obtain ⟨hR2, e2⟩ := Rel_hit hR (r := q) (by rw [(hR.2.2.2 q hq).2.1]; exact fun h9 => by rw [hb9] at h9; cases h9.2)
          rw [← e2] at hl
          obtain ⟨hk9, hv9⟩ := tk9 hR.1 hq (hR.2.2.2 q hq).2.2
          rw [(kV_p hkn).1] at hk9; rw [(kV_p hkn).2] at hv9
          refine lv_iload hx hb dX3_countQuestions_92 (lv_lk hl rfl) ?_
          refine iv_if_eq (tgt := 104) hx hb dX3_countQuestions_94 (by decide) (by omega) (fun c_94 => ?_) (fun c_94 => by exfalso; omega)
          refine lv_aload_n hx hb dX3_countQuestions_104 rfl (lv_lk hl rfl) ?_
          refine va_get (D := E.1) (ci := 3) hx hb hts inX3 hown hK.1 hP 0 rfl rfl 2 (by decide) (hts _ fl_X3_21) (fun _ h9 => h9) rfl dX3_countQuestions_105 ?_
          refine lv_astore (lv' := [(9, .ref _), (8, .int (I _)), (0, .ref _), (1, .int (I _)), (2, .int (I _)), (3, .int (I _)), (4, .long _), (6, .int (I _)), (7, .int (I _))]) hx hb dX3_countQuestions_108 hl (by decide) rfl (fun ls hl => ?_)
          refine lv_aload hx hb dX3_countQuestions_110 (lv_lk hl rfl) ?_
          refine lv_iload hx hb dX3_countQuestions_112 (lv_lk hl rfl) ?_
          refine call_S (va_runV ⟨hx, hb, hml, hown, hts⟩ (m_X2_kind l E (α 5) (α 6) (α 7) (α 8) (tK st) (tV st) (tA st) q (by omega)) (cwV 1 hts (gi_V ml_X3_64 im_X2_kind sl_X2_kind it_X2 cd_X2_kind) rfl rfl rfl (by decide +kernel) ⟨Nat.le_of_ble_eq_true rfl, Nat.le_of_ble_eq_true rfl⟩) (pR_V (q0 := 0) (ci := 2) (hP.sub (ws' := (repW E (α 5) (α 6) (α 7) (α 8) (tK st) (tV st) (tA st))) [5, 6, 7, 8] rfl) hK rfl rfl) rfl rfl hl.1 rfl (lv_room (Nat.le_of_ble_eq_true rfl)) dX3_countQuestions_114 ⟨Nat.le_of_ble_eq_true rfl, Nat.le_of_ble_eq_true rfl⟩) (fun _ h => h) hS rfl (fun locs hS => ?_)
          refine iv_eq (st (36 + 6 * q)) (rfl) ?_
          refine iv_iconst hx hb dX3_countQuestions_117 ?_
          refine iv_icmp_eq (tgt := 123) hx hb dX3_countQuestions_118 (by decide) (by omega) (by omega) (fun c_118 => ?_) (fun c_118 => ?_)
          · refine lv_aload hx hb dX3_countQuestions_123 (lv_lk hl rfl) ?_
            refine lv_iload hx hb dX3_countQuestions_125 (lv_lk hl rfl) ?_
            refine call_S (va_runV ⟨hx, hb, hml, hown, hts⟩ (m_X2_value l E (α 5) (α 6) (α 7) (α 8) (tK st) (tV st) (tA st) q (by omega)) (cwV 1 hts (gi_V ml_X3_68 im_X2_value sl_X2_value it_X2 cd_X2_value) rfl rfl rfl (by decide +kernel) ⟨Nat.le_of_ble_eq_true rfl, Nat.le_of_ble_eq_true rfl⟩) (pR_V (q0 := 0) (ci := 2) (hP.sub (ws' := (repW E (α 5) (α 6) (α 7) (α 8) (tK st) (tV st) (tA st))) [5, 6, 7, 8] rfl) hK rfl rfl) rfl rfl hl.1 rfl (lv_room (Nat.le_of_ble_eq_true rfl)) dX3_countQuestions_127 ⟨Nat.le_of_ble_eq_true rfl, Nat.le_of_ble_eq_true rfl⟩) (fun _ h => h) hS rfl (fun locs hS => ?_)
            refine iv_eq ((((st (36 + 6 * q + 1)).toNat : Nat) : Int)) ((show tV st q = st (36 + 6 * q + 1) from rfl).trans (by omega)) ?_
            refine lv_istore (lv' := [(6, .int (I _)), (9, .ref _), (8, .int (I _)), (0, .ref _), (1, .int (I _)), (2, .int (I _)), (3, .int (I _)), (4, .long _), (7, .int (I _))]) hx hb dX3_countQuestions_130 hl (by decide) rfl (fun ls hl => ?_)
            refine iv_iinc (k := 8) hx hb dX3_countQuestions_132 hl rfl (((i + 1 : Nat) : Int)) (by omega) (by decide) [(7, .int (I _)), (6, .int (I _)), (9, .ref _), (8, .int (I _)), (0, .ref _), (1, .int (I _)), (2, .int (I _)), (3, .int (I _)), (4, .long _)] rfl (fun ls hl => ?_)
            refine lv_goto (tgt := 13) hx hb dX3_countQuestions_135 (by decide) ?_
            exact ih (i + 1) (take s1 q) (st (36 + 6 * q + 1)).toNat mr hm (by omega) (by omega) hR2 hmr hh (by rw [← he9, solves_s (n := n9) (st := s1) (r := q) (by rw [hk9]; rw [if_neg (by omega)]; exact c_118), hv9]) locs ls hS (lv_sub hl [4, 5, 6, 7, 8, 1, 0] rfl)
          · refine lv_iload_n hx hb dX3_countQuestions_121 rfl (lv_lk hl rfl) ?_
            refine iv_eq (cost st r) (by show _ = (solvesF 7 st r).1 2 - st 2; rw [← he9, solvesF, if_neg (by rw [hk9]; split <;> omega)]) ?_
            exact W.iret hx hb hrt (fun t ht hW => ⟨rfl, ht⟩) hS.2.2 dX3_countQuestions_122 hlocks
        · refine iv_eq (0) (by rw [hb_tb, if_neg hb9]) ?_
          refine iv_if_ne (tgt := 92) hx hb dX3_countQuestions_53 (by decide) (by omega) (fun c_53 => by exfalso; omega) (fun c_53 => ?_)
          refine lv_aload_n hx hb dX3_countQuestions_56 rfl (lv_lk hl rfl) ?_
          refine lv_iload hx hb dX3_countQuestions_57 (lv_lk hl rfl) ?_
          refine iv_bipush hx hb dX3_countQuestions_59 (by decide +kernel) ?_
          refine iv_idiv hx hb dX3_countQuestions_61 (((q / 6 : Nat) : Int)) (I_div (x := q) (y := 6) (by omega) (by omega)) (by omega) ?_
          refine lv_iload_n hx hb dX3_countQuestions_62 rfl (lv_lk hl rfl) ?_
          refine call_S (va_runV ⟨hx, hb, hml, hown, hts⟩ (m_X3_lackingReferrals l E α st T hI (q / 6) mr (by omega) hmr) (cwV 2 hts (gi_V ml_X3_81 im_X3_lackingReferrals sl_X3_lackingReferrals it_X3 cd_X3_lackingReferrals) rfl rfl rfl (by decide +kernel) ⟨Nat.le_of_ble_eq_true rfl, Nat.le_of_ble_eq_true rfl⟩) (pR_V (q0 := 0) (ci := 3) hP hK rfl rfl) rfl rfl hl.1 rfl (lv_room (Nat.le_of_ble_eq_true rfl)) dX3_countQuestions_63 ⟨Nat.le_of_ble_eq_true rfl, Nat.le_of_ble_eq_true rfl⟩) (fun _ h => h) hS rfl (fun locs hS => ?_)
          obtain ⟨L, hL9⟩ : ∃ x, x = chainB 6 st mr.testBit (q / 6) := ⟨_, rfl⟩
          rw [← hL9]
          have hL : ∀ z ∈ L, z < 6 := by rw [hL9]; exact fun z hz => by have := chain_lt hI _ 6 (q / 6) (by omega) z hz; omega
          have hLd : L.Nodup := by rw [hL9]; exact chain_nd hI _ 6 (q / 6) (by omega)
          have hml9 := maskF_lt L 0 (by decide) hL
          refine lv_istore (lv' := [(9, .int (I _)), (8, .int (I _)), (0, .ref _), (1, .int (I _)), (2, .int (I _)), (3, .int (I _)), (4, .long _), (6, .int (I _)), (7, .int (I _))]) hx hb dX3_countQuestions_66 hl (by decide) rfl (fun ls hl => ?_)
          refine lv_iload_n hx hb dX3_countQuestions_68 rfl (lv_lk hl rfl) ?_
          refine lv_iload hx hb dX3_countQuestions_69 (lv_lk hl rfl) ?_
          refine call_S (va_runS ⟨hx, hb, hml, hown, hts⟩ (m_J6_bitCount_0f7a4 l E (maskF L 0) hml9) (va_cwS 1 hts (gi_S ml_X3_146 st_J6_bitCount_0f7a4 it_J6 cd_J6_bitCount_0f7a4) rfl rfl rfl (by decide +kernel) ⟨Nat.le_of_ble_eq_true rfl, Nat.le_of_ble_eq_true rfl⟩) (pR_S (hP.sub (ws' := []) [] rfl) hK) rfl rfl hl.1 rfl (lv_room (Nat.le_of_ble_eq_true rfl)) dX3_countQuestions_71 ⟨Nat.le_of_ble_eq_true rfl, Nat.le_of_ble_eq_true rfl⟩) (fun _ h => h) hS rfl (fun locs hS => ?_)
          refine iv_iconst hx hb dX3_countQuestions_74 ?_
          refine iv_iadd hx hb dX3_countQuestions_75 ?_
          refine iv_iadd hx hb dX3_countQuestions_76 ?_
          obtain ⟨hR2, e2⟩ := Rel_ask hI hR hq ((hR.2.2.2 q hq).2.1.mpr ⟨hkn, by simpa using hb9⟩)
          rw [← hL9] at hR2 e2
          refine iv_eq (take s1 q 2 - st 2) (by rw [e2, popc_mask L hL hLd]; omega) ?_
          refine lv_istore_n (lv' := [(2, .int (I _)), (9, .int (I _)), (8, .int (I _)), (0, .ref _), (1, .int (I _)), (3, .int (I _)), (4, .long _), (6, .int (I _)), (7, .int (I _))]) hx hb dX3_countQuestions_77 rfl hl (by decide) rfl (fun ls hl => ?_)
          refine lv_iload_n hx hb dX3_countQuestions_78 rfl (lv_lk hl rfl) ?_
          refine lv_iload hx hb dX3_countQuestions_79 (lv_lk hl rfl) ?_
          refine lv_ior hx hb dX3_countQuestions_81 ?_
          rw [mask_oor mr L hmr hL]
          refine lv_istore_n (lv' := [(3, .int (I _)), (2, .int (I _)), (9, .int (I _)), (8, .int (I _)), (0, .ref _), (1, .int (I _)), (4, .long _), (6, .int (I _)), (7, .int (I _))]) hx hb dX3_countQuestions_82 rfl hl (by decide) rfl (fun ls hl => ?_)
          refine lv_lload hx hb dX3_countQuestions_83 (lv_lk hl rfl) ?_
          refine lv_lconst (v := lN 1) hx hb dX3_countQuestions_85 rfl ?_
          refine lv_iload hx hb dX3_countQuestions_86 (lv_lk hl rfl) ?_
          refine lv_lshl (v := lN (2 ^ q)) hx hb dX3_countQuestions_88 (hb_shl hq) ?_
          refine lv_lor hx hb dX3_countQuestions_89 ?_
          rw [hb_or hh hq]
          refine lv_lstore (lv' := [(4, .long _), (3, .int (I _)), (2, .int (I _)), (9, .int (I _)), (8, .int (I _)), (0, .ref _), (1, .int (I _)), (6, .int (I _)), (7, .int (I _))]) hx hb dX3_countQuestions_90 hl (by decide) rfl (fun ls hl => ?_)
          obtain ⟨hk9, hv9⟩ := tk9 hR.1 hq (hR.2.2.2 q hq).2.2
          rw [(kV_p hkn).1] at hk9; rw [(kV_p hkn).2] at hv9
          refine lv_iload hx hb dX3_countQuestions_92 (lv_lk hl rfl) ?_
          refine iv_if_eq (tgt := 104) hx hb dX3_countQuestions_94 (by decide) (by omega) (fun c_94 => ?_) (fun c_94 => by exfalso; omega)
          refine lv_aload_n hx hb dX3_countQuestions_104 rfl (lv_lk hl rfl) ?_
          refine va_get (D := E.1) (ci := 3) hx hb hts inX3 hown hK.1 hP 0 rfl rfl 2 (by decide) (hts _ fl_X3_21) (fun _ h9 => h9) rfl dX3_countQuestions_105 ?_
          refine lv_astore (lv' := [(9, .ref _), (4, .long _), (3, .int (I _)), (2, .int (I _)), (8, .int (I _)), (0, .ref _), (1, .int (I _)), (6, .int (I _)), (7, .int (I _))]) hx hb dX3_countQuestions_108 hl (by decide) rfl (fun ls hl => ?_)
          refine lv_aload hx hb dX3_countQuestions_110 (lv_lk hl rfl) ?_
          refine lv_iload hx hb dX3_countQuestions_112 (lv_lk hl rfl) ?_
          refine call_S (va_runV ⟨hx, hb, hml, hown, hts⟩ (m_X2_kind l E (α 5) (α 6) (α 7) (α 8) (tK st) (tV st) (tA st) q (by omega)) (cwV 1 hts (gi_V ml_X3_64 im_X2_kind sl_X2_kind it_X2 cd_X2_kind) rfl rfl rfl (by decide +kernel) ⟨Nat.le_of_ble_eq_true rfl, Nat.le_of_ble_eq_true rfl⟩) (pR_V (q0 := 0) (ci := 2) (hP.sub (ws' := (repW E (α 5) (α 6) (α 7) (α 8) (tK st) (tV st) (tA st))) [5, 6, 7, 8] rfl) hK rfl rfl) rfl rfl hl.1 rfl (lv_room (Nat.le_of_ble_eq_true rfl)) dX3_countQuestions_114 ⟨Nat.le_of_ble_eq_true rfl, Nat.le_of_ble_eq_true rfl⟩) (fun _ h => h) hS rfl (fun locs hS => ?_)
          refine iv_eq (st (36 + 6 * q)) (rfl) ?_
          refine iv_iconst hx hb dX3_countQuestions_117 ?_
          refine iv_icmp_eq (tgt := 123) hx hb dX3_countQuestions_118 (by decide) (by omega) (by omega) (fun c_118 => ?_) (fun c_118 => ?_)
          · refine lv_aload hx hb dX3_countQuestions_123 (lv_lk hl rfl) ?_
            refine lv_iload hx hb dX3_countQuestions_125 (lv_lk hl rfl) ?_
            refine call_S (va_runV ⟨hx, hb, hml, hown, hts⟩ (m_X2_value l E (α 5) (α 6) (α 7) (α 8) (tK st) (tV st) (tA st) q (by omega)) (cwV 1 hts (gi_V ml_X3_68 im_X2_value sl_X2_value it_X2 cd_X2_value) rfl rfl rfl (by decide +kernel) ⟨Nat.le_of_ble_eq_true rfl, Nat.le_of_ble_eq_true rfl⟩) (pR_V (q0 := 0) (ci := 2) (hP.sub (ws' := (repW E (α 5) (α 6) (α 7) (α 8) (tK st) (tV st) (tA st))) [5, 6, 7, 8] rfl) hK rfl rfl) rfl rfl hl.1 rfl (lv_room (Nat.le_of_ble_eq_true rfl)) dX3_countQuestions_127 ⟨Nat.le_of_ble_eq_true rfl, Nat.le_of_ble_eq_true rfl⟩) (fun _ h => h) hS rfl (fun locs hS => ?_)
            refine iv_eq ((((st (36 + 6 * q + 1)).toNat : Nat) : Int)) ((show tV st q = st (36 + 6 * q + 1) from rfl).trans (by omega)) ?_
            refine lv_istore (lv' := [(6, .int (I _)), (9, .ref _), (4, .long _), (3, .int (I _)), (2, .int (I _)), (8, .int (I _)), (0, .ref _), (1, .int (I _)), (7, .int (I _))]) hx hb dX3_countQuestions_130 hl (by decide) rfl (fun ls hl => ?_)
            refine iv_iinc (k := 8) hx hb dX3_countQuestions_132 hl rfl (((i + 1 : Nat) : Int)) (by omega) (by decide) [(7, .int (I _)), (6, .int (I _)), (9, .ref _), (4, .long _), (3, .int (I _)), (2, .int (I _)), (8, .int (I _)), (0, .ref _), (1, .int (I _))] rfl (fun ls hl => ?_)
            refine lv_goto (tgt := 13) hx hb dX3_countQuestions_135 (by decide) ?_
            exact ih (i + 1) (take s1 q) (st (36 + 6 * q + 1)).toNat (maskF L mr) (hm ||| 2 ^ q) (by omega) (by omega) hR2 (maskF_lt L mr hmr hL) (hb_lt hh hq) (by rw [← he9, solves_s (n := n9) (st := s1) (r := q) (by rw [hk9]; rw [if_neg (by omega)]; exact c_118), hv9]) locs ls hS (lv_sub hl [7, 8, 5, 4, 3, 1, 0] rfl)
          · refine lv_iload_n hx hb dX3_countQuestions_121 rfl (lv_lk hl rfl) ?_
            refine iv_eq (cost st r) (by show _ = (solvesF 7 st r).1 2 - st 2; rw [← he9, solvesF, if_neg (by rw [hk9]; split <;> omega)]) ?_
            exact W.iret hx hb hrt (fun t ht hW => ⟨rfl, ht⟩) hS.2.2 dX3_countQuestions_122 hlocks
      · have hkn : ¬ st (36 + 6 * q + 3) = 0 := c_29
        refine iv_iconst hx hb dX3_countQuestions_32 ?_
        refine lv_goto (tgt := 37) hx hb dX3_countQuestions_33 (by decide) ?_
        refine lv_istore (lv' := [(8, .int (I _)), (0, .ref _), (1, .int (I _)), (2, .int (I _)), (3, .int (I _)), (4, .long _), (6, .int (I _)), (7, .int (I _))]) hx hb dX3_countQuestions_37 hl (by decide) rfl (fun ls hl => ?_)
        refine lv_iload hx hb dX3_countQuestions_39 (lv_lk hl rfl) ?_
        refine iv_if_ne (tgt := 92) hx hb dX3_countQuestions_41 (by decide) (by omega) (fun c_41 => ?_) (fun c_41 => by exfalso; omega)
        obtain ⟨hR2, e2⟩ := Rel_hit hR (r := q) (by rw [(hR.2.2.2 q hq).2.1]; exact fun h9 => hkn h9.1)
        rw [← e2] at hl
        obtain ⟨hk9, hv9⟩ := tk9 hR.1 hq (hR.2.2.2 q hq).2.2
        rw [(kV_n hkn).1] at hk9; rw [(kV_n hkn).2] at hv9
        refine lv_iload hx hb dX3_countQuestions_92 (lv_lk hl rfl) ?_
        refine iv_if_eq (tgt := 104) hx hb dX3_countQuestions_94 (by decide) (by omega) (fun c_94 => by exfalso; omega) (fun c_94 => ?_)
        refine lv_aload_n hx hb dX3_countQuestions_97 rfl (lv_lk hl rfl) ?_
        refine va_get (D := E.1) (ci := 3) hx hb hts inX3 hown hK.1 hP 0 rfl rfl 3 (by decide) (hts _ fl_X3_25) (fun _ h9 => h9) rfl dX3_countQuestions_98 ?_
        refine lv_goto (tgt := 108) hx hb dX3_countQuestions_101 (by decide) ?_
        refine lv_astore (lv' := [(9, .ref _), (8, .int (I _)), (0, .ref _), (1, .int (I _)), (2, .int (I _)), (3, .int (I _)), (4, .long _), (6, .int (I _)), (7, .int (I _))]) hx hb dX3_countQuestions_108 hl (by decide) rfl (fun ls hl => ?_)
        refine lv_aload hx hb dX3_countQuestions_110 (lv_lk hl rfl) ?_
        refine lv_iload hx hb dX3_countQuestions_112 (lv_lk hl rfl) ?_
        refine call_S (va_runV ⟨hx, hb, hml, hown, hts⟩ (m_X2_kind l E (α 9) (α 10) (α 11) (α 12) (mK st) (mV st) (mE st) q (by omega)) (cwV 1 hts (gi_V ml_X3_64 im_X2_kind sl_X2_kind it_X2 cd_X2_kind) rfl rfl rfl (by decide +kernel) ⟨Nat.le_of_ble_eq_true rfl, Nat.le_of_ble_eq_true rfl⟩) (pR_V (q0 := 0) (ci := 2) (hP.sub (ws' := (repW E (α 9) (α 10) (α 11) (α 12) (mK st) (mV st) (mE st))) [9, 10, 11, 12] rfl) hK rfl rfl) rfl rfl hl.1 rfl (lv_room (Nat.le_of_ble_eq_true rfl)) dX3_countQuestions_114 ⟨Nat.le_of_ble_eq_true rfl, Nat.le_of_ble_eq_true rfl⟩) (fun _ h => h) hS rfl (fun locs hS => ?_)
        refine iv_eq (st (36 + 6 * q + 3)) (rfl) ?_
        refine iv_iconst hx hb dX3_countQuestions_117 ?_
        refine iv_icmp_eq (tgt := 123) hx hb dX3_countQuestions_118 (by decide) (by omega) (by omega) (fun c_118 => ?_) (fun c_118 => ?_)
        · refine lv_aload hx hb dX3_countQuestions_123 (lv_lk hl rfl) ?_
          refine lv_iload hx hb dX3_countQuestions_125 (lv_lk hl rfl) ?_
          refine call_S (va_runV ⟨hx, hb, hml, hown, hts⟩ (m_X2_value l E (α 9) (α 10) (α 11) (α 12) (mK st) (mV st) (mE st) q (by omega)) (cwV 1 hts (gi_V ml_X3_68 im_X2_value sl_X2_value it_X2 cd_X2_value) rfl rfl rfl (by decide +kernel) ⟨Nat.le_of_ble_eq_true rfl, Nat.le_of_ble_eq_true rfl⟩) (pR_V (q0 := 0) (ci := 2) (hP.sub (ws' := (repW E (α 9) (α 10) (α 11) (α 12) (mK st) (mV st) (mE st))) [9, 10, 11, 12] rfl) hK rfl rfl) rfl rfl hl.1 rfl (lv_room (Nat.le_of_ble_eq_true rfl)) dX3_countQuestions_127 ⟨Nat.le_of_ble_eq_true rfl, Nat.le_of_ble_eq_true rfl⟩) (fun _ h => h) hS rfl (fun locs hS => ?_)
          refine iv_eq ((((st (36 + 6 * q + 4)).toNat : Nat) : Int)) ((if_neg hkn).trans (by omega)) ?_
          refine lv_istore (lv' := [(6, .int (I _)), (9, .ref _), (8, .int (I _)), (0, .ref _), (1, .int (I _)), (2, .int (I _)), (3, .int (I _)), (4, .long _), (7, .int (I _))]) hx hb dX3_countQuestions_130 hl (by decide) rfl (fun ls hl => ?_)
          refine iv_iinc (k := 8) hx hb dX3_countQuestions_132 hl rfl (((i + 1 : Nat) : Int)) (by omega) (by decide) [(7, .int (I _)), (6, .int (I _)), (9, .ref _), (8, .int (I _)), (0, .ref _), (1, .int (I _)), (2, .int (I _)), (3, .int (I _)), (4, .long _)] rfl (fun ls hl => ?_)
          refine lv_goto (tgt := 13) hx hb dX3_countQuestions_135 (by decide) ?_
          exact ih (i + 1) (take s1 q) (st (36 + 6 * q + 4)).toNat mr hm (by omega) (by omega) hR2 hmr hh (by rw [← he9, solves_s (n := n9) (st := s1) (r := q) (by rw [hk9]; exact c_118), hv9]) locs ls hS (lv_sub hl [4, 5, 6, 7, 8, 1, 0] rfl)
        · refine lv_iload_n hx hb dX3_countQuestions_121 rfl (lv_lk hl rfl) ?_
          refine iv_eq (cost st r) (by show _ = (solvesF 7 st r).1 2 - st 2; rw [← he9, solvesF, if_neg (by rw [hk9]; exact c_118)]) ?_
          exact W.iret hx hb hrt (fun t ht hW => ⟨rfl, ht⟩) hS.2.2 dX3_countQuestions_122 hlocks
  exact LOOP13 7 0 st r 0 0 hr (by omega) (Rel_0 hI) (by decide) (by decide) rfl _ _ hS (lv_sub hl [5, 6, 4, 3, 2, 1, 0] rfl)
