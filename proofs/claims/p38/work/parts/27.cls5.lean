/-! the class: State, third part: asking and solving; written by cls.py -/
theorem bc9 : ∀ m : Fin 64, ((((((((((((((I (m.val : Int)) - ((((I (m.val : Int))).toUInt32 >>> ((I 1).toUInt32 &&& Int32.toUInt32 31)).toInt32 &&& 1431655765))) &&& 858993459) + ((((((I (m.val : Int)) - ((((I (m.val : Int))).toUInt32 >>> ((I 1).toUInt32 &&& Int32.toUInt32 31)).toInt32 &&& 1431655765)))).toUInt32 >>> ((I 2).toUInt32 &&& Int32.toUInt32 31)).toInt32 &&& 858993459))) + ((((((((I (m.val : Int)) - ((((I (m.val : Int))).toUInt32 >>> ((I 1).toUInt32 &&& Int32.toUInt32 31)).toInt32 &&& 1431655765))) &&& 858993459) + ((((((I (m.val : Int)) - ((((I (m.val : Int))).toUInt32 >>> ((I 1).toUInt32 &&& Int32.toUInt32 31)).toInt32 &&& 1431655765)))).toUInt32 >>> ((I 2).toUInt32 &&& Int32.toUInt32 31)).toInt32 &&& 858993459)))).toUInt32 >>> ((I 4).toUInt32 &&& Int32.toUInt32 31)).toInt32) &&& 252645135)) + (((((((((((I (m.val : Int)) - ((((I (m.val : Int))).toUInt32 >>> ((I 1).toUInt32 &&& Int32.toUInt32 31)).toInt32 &&& 1431655765))) &&& 858993459) + ((((((I (m.val : Int)) - ((((I (m.val : Int))).toUInt32 >>> ((I 1).toUInt32 &&& Int32.toUInt32 31)).toInt32 &&& 1431655765)))).toUInt32 >>> ((I 2).toUInt32 &&& Int32.toUInt32 31)).toInt32 &&& 858993459))) + ((((((((I (m.val : Int)) - ((((I (m.val : Int))).toUInt32 >>> ((I 1).toUInt32 &&& Int32.toUInt32 31)).toInt32 &&& 1431655765))) &&& 858993459) + ((((((I (m.val : Int)) - ((((I (m.val : Int))).toUInt32 >>> ((I 1).toUInt32 &&& Int32.toUInt32 31)).toInt32 &&& 1431655765)))).toUInt32 >>> ((I 2).toUInt32 &&& Int32.toUInt32 31)).toInt32 &&& 858993459)))).toUInt32 >>> ((I 4).toUInt32 &&& Int32.toUInt32 31)).toInt32) &&& 252645135))).toUInt32 >>> ((I 8).toUInt32 &&& Int32.toUInt32 31)).toInt32)) + (((((((((((((I (m.val : Int)) - ((((I (m.val : Int))).toUInt32 >>> ((I 1).toUInt32 &&& Int32.toUInt32 31)).toInt32 &&& 1431655765))) &&& 858993459) + ((((((I (m.val : Int)) - ((((I (m.val : Int))).toUInt32 >>> ((I 1).toUInt32 &&& Int32.toUInt32 31)).toInt32 &&& 1431655765)))).toUInt32 >>> ((I 2).toUInt32 &&& Int32.toUInt32 31)).toInt32 &&& 858993459))) + ((((((((I (m.val : Int)) - ((((I (m.val : Int))).toUInt32 >>> ((I 1).toUInt32 &&& Int32.toUInt32 31)).toInt32 &&& 1431655765))) &&& 858993459) + ((((((I (m.val : Int)) - ((((I (m.val : Int))).toUInt32 >>> ((I 1).toUInt32 &&& Int32.toUInt32 31)).toInt32 &&& 1431655765)))).toUInt32 >>> ((I 2).toUInt32 &&& Int32.toUInt32 31)).toInt32 &&& 858993459)))).toUInt32 >>> ((I 4).toUInt32 &&& Int32.toUInt32 31)).toInt32) &&& 252645135)) + (((((((((((I (m.val : Int)) - ((((I (m.val : Int))).toUInt32 >>> ((I 1).toUInt32 &&& Int32.toUInt32 31)).toInt32 &&& 1431655765))) &&& 858993459) + ((((((I (m.val : Int)) - ((((I (m.val : Int))).toUInt32 >>> ((I 1).toUInt32 &&& Int32.toUInt32 31)).toInt32 &&& 1431655765)))).toUInt32 >>> ((I 2).toUInt32 &&& Int32.toUInt32 31)).toInt32 &&& 858993459))) + ((((((((I (m.val : Int)) - ((((I (m.val : Int))).toUInt32 >>> ((I 1).toUInt32 &&& Int32.toUInt32 31)).toInt32 &&& 1431655765))) &&& 858993459) + ((((((I (m.val : Int)) - ((((I (m.val : Int))).toUInt32 >>> ((I 1).toUInt32 &&& Int32.toUInt32 31)).toInt32 &&& 1431655765)))).toUInt32 >>> ((I 2).toUInt32 &&& Int32.toUInt32 31)).toInt32 &&& 858993459)))).toUInt32 >>> ((I 4).toUInt32 &&& Int32.toUInt32 31)).toInt32) &&& 252645135))).toUInt32 >>> ((I 8).toUInt32 &&& Int32.toUInt32 31)).toInt32))).toUInt32 >>> ((I 16).toUInt32 &&& Int32.toUInt32 31)).toInt32)) &&& I 63) = I ((popc m.val : Nat) : Int) := by decide +kernel
set_option maxHeartbeats 4000000 in
set_option maxRecDepth 100000 in
theorem m_J6_bitCount_0f7a4 (l : Launch) (E : Env3) (m9 : Nat) (hm9 : m9 < 64) : Met l yJ6_bitCount_0f7a4 (Cond.code yJ6_bitCount_0f7a4 cJ6_bitCount_0f7a4 1 (some .int) :: ALL) ({ frames := 0, cells := 0, slots := 0, locals := 0 }) (pR [.int (I (m9 : Int))] E []) (qS (some (.int (I ((popc m9 : Nat) : Int))))) 0 0 (fun _ => False) := by
  refine mk_met (by decide) rfl (Nat.le_of_ble_eq_true rfl) ?_
  intro p e s m args below meth c hx hb hrt hml hts hown hlocks hnm hP hK ls hl
  have hown : s.vm.findClass RJ6 = some m.cls := hown
  have hl : lv_has ls 1 [(0, .int (I (m9 : Int)))] := hl
  have hS : va_S (fun _ => False) s.heap s.heap [] := va_S.rf
  refine lv_iload_n hx hb dJ6_bitCount_0f7a4_0 rfl (lv_lk hl rfl) ?_
  refine lv_iload_n hx hb dJ6_bitCount_0f7a4_1 rfl (lv_lk hl rfl) ?_
  refine iv_iconst hx hb dJ6_bitCount_0f7a4_2 ?_
  refine lv_iushr hx hb dJ6_bitCount_0f7a4_3 rfl ?_
  refine lv_ldcw hx hb hown (hts _ ki_J6_265) dJ6_bitCount_0f7a4_4 ?_
  refine lv_iand hx hb dJ6_bitCount_0f7a4_7 ?_
  refine lv_isub hx hb dJ6_bitCount_0f7a4_8 ?_
  refine lv_topi (fun y1 e1 => ?_)
  refine lv_istore_n (lv' := [(0, .int y1)]) hx hb dJ6_bitCount_0f7a4_9 rfl hl (by decide) rfl (fun ls hl => ?_)
  refine lv_iload_n hx hb dJ6_bitCount_0f7a4_10 rfl (lv_lk hl rfl) ?_
  refine lv_ldcw hx hb hown (hts _ ki_J6_266) dJ6_bitCount_0f7a4_11 ?_
  refine lv_iand hx hb dJ6_bitCount_0f7a4_14 ?_
  refine lv_iload_n hx hb dJ6_bitCount_0f7a4_15 rfl (lv_lk hl rfl) ?_
  refine iv_iconst hx hb dJ6_bitCount_0f7a4_16 ?_
  refine lv_iushr hx hb dJ6_bitCount_0f7a4_17 rfl ?_
  refine lv_ldcw hx hb hown (hts _ ki_J6_266) dJ6_bitCount_0f7a4_18 ?_
  refine lv_iand hx hb dJ6_bitCount_0f7a4_21 ?_
  refine lv_iadd hx hb dJ6_bitCount_0f7a4_22 ?_
  refine lv_topi (fun y2 e2 => ?_)
  refine lv_istore_n (lv' := [(0, .int y2)]) hx hb dJ6_bitCount_0f7a4_23 rfl hl (by decide) rfl (fun ls hl => ?_)
  refine lv_iload_n hx hb dJ6_bitCount_0f7a4_24 rfl (lv_lk hl rfl) ?_
  refine lv_iload_n hx hb dJ6_bitCount_0f7a4_25 rfl (lv_lk hl rfl) ?_
  refine iv_iconst hx hb dJ6_bitCount_0f7a4_26 ?_
  refine lv_iushr hx hb dJ6_bitCount_0f7a4_27 rfl ?_
  refine lv_iadd hx hb dJ6_bitCount_0f7a4_28 ?_
  refine lv_ldcw hx hb hown (hts _ ki_J6_267) dJ6_bitCount_0f7a4_29 ?_
  refine lv_iand hx hb dJ6_bitCount_0f7a4_32 ?_
  refine lv_topi (fun y3 e3 => ?_)
  refine lv_istore_n (lv' := [(0, .int y3)]) hx hb dJ6_bitCount_0f7a4_33 rfl hl (by decide) rfl (fun ls hl => ?_)
  refine lv_iload_n hx hb dJ6_bitCount_0f7a4_34 rfl (lv_lk hl rfl) ?_
  refine lv_iload_n hx hb dJ6_bitCount_0f7a4_35 rfl (lv_lk hl rfl) ?_
  refine iv_bipush hx hb dJ6_bitCount_0f7a4_36 (by decide +kernel) ?_
  refine lv_iushr hx hb dJ6_bitCount_0f7a4_38 rfl ?_
  refine lv_iadd hx hb dJ6_bitCount_0f7a4_39 ?_
  refine lv_topi (fun y4 e4 => ?_)
  refine lv_istore_n (lv' := [(0, .int y4)]) hx hb dJ6_bitCount_0f7a4_40 rfl hl (by decide) rfl (fun ls hl => ?_)
  refine lv_iload_n hx hb dJ6_bitCount_0f7a4_41 rfl (lv_lk hl rfl) ?_
  refine lv_iload_n hx hb dJ6_bitCount_0f7a4_42 rfl (lv_lk hl rfl) ?_
  refine iv_bipush hx hb dJ6_bitCount_0f7a4_43 (by decide +kernel) ?_
  refine lv_iushr hx hb dJ6_bitCount_0f7a4_45 rfl ?_
  refine lv_iadd hx hb dJ6_bitCount_0f7a4_46 ?_
  refine lv_topi (fun y5 e5 => ?_)
  refine lv_istore_n (lv' := [(0, .int y5)]) hx hb dJ6_bitCount_0f7a4_47 rfl hl (by decide) rfl (fun ls hl => ?_)
  refine lv_iload_n hx hb dJ6_bitCount_0f7a4_48 rfl (lv_lk hl rfl) ?_
  refine iv_bipush hx hb dJ6_bitCount_0f7a4_49 (by decide +kernel) ?_
  refine lv_iand hx hb dJ6_bitCount_0f7a4_51 ?_
  rw [show (y5 &&& I 63) = I ((popc m9 : Nat) : Int) from by rw [e5, e4, e3, e2, e1]; exact bc9 ⟨m9, hm9⟩]
  exact W.iret hx hb hrt (fun t ht hW => ⟨rfl, ht⟩) hS.2.2 dJ6_bitCount_0f7a4_52 hlocks
set_option maxHeartbeats 4000000 in
set_option maxRecDepth 100000 in
theorem m_X3_lacksReferral (l : Launch) (E : Env3) (α : Nat → Nat) (st : S) (T : Int) (hI : IB T st) (z mr : Nat) (hz : z < 6) (hmr : mr < 64) : Met l yX3_lacksReferral (Cond.code yX3_lacksReferral cX3_lacksReferral 3 (some .boolean) :: ALL) ({ frames := 0, cells := 0, slots := 0, locals := 0 }) (pR [.ref (α 0), .int (I (z : Int)), .int (I (mr : Int))] E (stW E α st)) (qS (some (.int (I (if ¬ (z = 0 ∨ st (6 + 5 * z + 3) ≠ 0 ∨ mr.testBit z = true) then 1 else 0))))) 0 0 (fun _ => False) := by
  refine mk_met (by decide) rfl (Nat.le_of_ble_eq_true rfl) ?_
  intro p e s m args below meth c hx hb hrt hml hts hown hlocks hnm hP hK ls hl
  have hown : s.vm.findClass RX3 = some m.cls := hown
  have hl : lv_has ls 3 [(0, .ref (α 0)), (1, .int (I (z : Int))), (2, .int (I (mr : Int)))] := hl
  have hS : va_S (fun _ => False) s.heap s.heap [] := va_S.rf
  have z9 := (hI.2.2.1 z hz).2.2.2.2.2
  have z8 := hI.1
  refine lv_iload_n hx hb dX3_lacksReferral_0 rfl (lv_lk hl rfl) ?_
  refine iv_if_le (tgt := 34) hx hb dX3_lacksReferral_1 (by decide) (by omega) (fun c_1 => ?_) (fun c_1 => ?_)
  · refine iv_iconst hx hb dX3_lacksReferral_34 ?_
    refine iv_eq (if ¬ (z = 0 ∨ st (6 + 5 * z + 3) ≠ 0 ∨ mr.testBit z = true) then 1 else 0) (by rw [if_neg (fun h9 => h9 (Or.inl (by omega)))]) ?_
    exact W.zret (ty := .boolean) hx hb hrt bool_nar (fun t ht hW => ⟨rfl, ht⟩) hS.2.2 dX3_lacksReferral_35 hlocks
  · refine lv_iload_n hx hb dX3_lacksReferral_4 rfl (lv_lk hl rfl) ?_
    refine lv_aload_n hx hb dX3_lacksReferral_5 rfl (lv_lk hl rfl) ?_
    refine va_get (D := E.1) (ci := 3) hx hb hts inX3 hown hK.1 hP 0 rfl rfl 4 (by decide) (hts _ fl_X3_28) (fun _ h9 => h9) rfl dX3_lacksReferral_6 ?_
    refine va_alen hx hb hK.1 hP 13 0 rfl rfl (v := I 6) (I_ofNat _) dX3_lacksReferral_9 ?_
    refine iv_icmp_ge (tgt := 34) hx hb dX3_lacksReferral_10 (by decide) (by omega) (by omega) (fun c_10 => by exfalso; omega) (fun c_10 => ?_)
    refine lv_aload_n hx hb dX3_lacksReferral_13 rfl (lv_lk hl rfl) ?_
    refine va_get (D := E.1) (ci := 3) hx hb hts inX3 hown hK.1 hP 0 rfl rfl 4 (by decide) (hts _ fl_X3_28) (fun _ h9 => h9) rfl dX3_lacksReferral_14 ?_
    refine lv_iload_n hx hb dX3_lacksReferral_17 rfl (lv_lk hl rfl) ?_
    refine iv_iald hx hb hK hP 13 rfl (z) (by omega) (by omega) dX3_lacksReferral_18 ?_
    refine iv_eq (st (6 + 5 * z + 3)) (rfl) ?_
    refine iv_if_ne (tgt := 34) hx hb dX3_lacksReferral_19 (by decide) (by omega) (fun c_19 => ?_) (fun c_19 => ?_)
    · refine iv_iconst hx hb dX3_lacksReferral_34 ?_
      refine iv_eq (if ¬ (z = 0 ∨ st (6 + 5 * z + 3) ≠ 0 ∨ mr.testBit z = true) then 1 else 0) (by rw [if_neg (fun h9 => h9 (Or.inr (Or.inl c_19)))]) ?_
      exact W.zret (ty := .boolean) hx hb hrt bool_nar (fun t ht hW => ⟨rfl, ht⟩) hS.2.2 dX3_lacksReferral_35 hlocks
    · refine lv_iload_n hx hb dX3_lacksReferral_22 rfl (lv_lk hl rfl) ?_
      refine lv_iload_n hx hb dX3_lacksReferral_23 rfl (lv_lk hl rfl) ?_
      refine lv_ishr hx hb dX3_lacksReferral_24 ?_
      refine iv_iconst hx hb dX3_lacksReferral_25 ?_
      refine lv_iand hx hb dX3_lacksReferral_26 ?_
      rw [show (I (mr : Int) >>> (I (z : Int) &&& 31)) &&& I 1 = I (if mr.testBit z then 1 else 0) from mask_bit ⟨mr, hmr⟩ ⟨z, hz⟩]
      by_cases hb9 : mr.testBit z = true
      · refine iv_eq (1) (by rw [if_pos hb9]) ?_
        refine iv_if_ne (tgt := 34) hx hb dX3_lacksReferral_27 (by decide) (by omega) (fun c_27 => ?_) (fun c_27 => by exfalso; omega)
        refine iv_iconst hx hb dX3_lacksReferral_34 ?_
        refine iv_eq (if ¬ (z = 0 ∨ st (6 + 5 * z + 3) ≠ 0 ∨ mr.testBit z = true) then 1 else 0) (by rw [if_neg (fun h9 => h9 (Or.inr (Or.inr hb9)))]) ?_
        exact W.zret (ty := .boolean) hx hb hrt bool_nar (fun t ht hW => ⟨rfl, ht⟩) hS.2.2 dX3_lacksReferral_35 hlocks
      · refine iv_eq (0) (by rw [if_neg hb9]) ?_
        refine iv_if_ne (tgt := 34) hx hb dX3_lacksReferral_27 (by decide) (by omega) (fun c_27 => by exfalso; omega) (fun c_27 => ?_)
        refine iv_iconst hx hb dX3_lacksReferral_30 ?_
        refine lv_goto (tgt := 35) hx hb dX3_lacksReferral_31 (by decide) ?_
        refine iv_eq (if ¬ (z = 0 ∨ st (6 + 5 * z + 3) ≠ 0 ∨ mr.testBit z = true) then 1 else 0) (by rw [if_pos (by rintro (h9 | h9 | h9); (· omega); (· exact h9 c_19); (· exact hb9 h9))]) ?_
        exact W.zret (ty := .boolean) hx hb hrt bool_nar (fun t ht hW => ⟨rfl, ht⟩) hS.2.2 dX3_lacksReferral_35 hlocks
set_option maxHeartbeats 4000000 in
set_option maxRecDepth 100000 in
theorem m_X3_lackingReferrals (l : Launch) (E : Env3) (α : Nat → Nat) (st : S) (T : Int) (hI : IB T st) (z mr : Nat) (hz : z < 6) (hmr : mr < 64) : Met l yX3_lackingReferrals (Cond.code yX3_lackingReferrals cX3_lackingReferrals 6 (some .int) :: ALL) ({ frames := 1, cells := 0, slots := 0, locals := 22 }) (pR [.ref (α 0), .int (I (z : Int)), .int (I (mr : Int))] E (stW E α st)) (qS (some (.int (I (((maskF (chainB 6 st mr.testBit z) 0 : Nat) : Int)))))) 0 0 (fun _ => False) := by
  refine mk_met (by decide) rfl (Nat.le_of_ble_eq_true rfl) ?_
  intro p e s m args below meth c hx hb hrt hml hts hown hlocks hnm hP hK ls hl
  have hown : s.vm.findClass RX3 = some m.cls := hown
  have hl : lv_has ls 6 [(0, .ref (α 0)), (1, .int (I (z : Int))), (2, .int (I (mr : Int)))] := hl
  have hS : va_S (fun _ => False) s.heap s.heap [] := va_S.rf
  refine iv_iconst hx hb dX3_lackingReferrals_0 ?_
  refine lv_istore_n (lv' := [(3, .int (I _)), (0, .ref _), (1, .int (I _)), (2, .int (I _))]) hx hb dX3_lackingReferrals_1 rfl hl (by decide) rfl (fun ls hl => ?_)
  refine lv_iload_n hx hb dX3_lackingReferrals_2 rfl (lv_lk hl rfl) ?_
  refine lv_istore (lv' := [(4, .int (I _)), (3, .int (I _)), (0, .ref _), (1, .int (I _)), (2, .int (I _))]) hx hb dX3_lackingReferrals_3 hl (by decide) rfl (fun ls hl => ?_)
  refine iv_iconst hx hb dX3_lackingReferrals_5 ?_
  refine lv_istore (lv' := [(5, .int (I _)), (4, .int (I _)), (3, .int (I _)), (0, .ref _), (1, .int (I _)), (2, .int (I _))]) hx hb dX3_lackingReferrals_6 hl (by decide) rfl (fun ls hl => ?_)
  have LOOP8 : ∀ (n9 i : Nat) (y mk : Nat), (y < 6) → (mk < 64) → (i + n9 = 6) → (maskF (chainB n9 st mr.testBit y) mk = maskF (chainB 6 st mr.testBit z) 0) → ∀ (locs : List Loc) (ls : Array Slot), va_S (fun _ => False) s.heap s.heap locs → lv_has ls 6 [(0, .ref (α 0)), (1, .int (I (z : Int))), (2, .int (I (mr : Int))), (3, .int (I (mk : Int))), (4, .int (I (y : Int))), (5, .int (I (i : Int)))] → W p l e ({ frames := 1, cells := 0, slots := 0, locals := 22 }) s m args below meth c s.heap locs 0 0 (MQ below (qS (some (.int (I (((maskF (chainB 6 st mr.testBit z) 0 : Nat) : Int)))))) args s 0 0 (fun _ => False)) (F0 m 8 ls []) := by
    intro n9
    induction n9 with
    | zero =>
      intro  i y mk hy hmk hi9 he9 locs ls hS hl
      refine lv_iload hx hb dX3_lackingReferrals_8 (lv_lk hl rfl) ?_
      refine iv_bipush hx hb dX3_lackingReferrals_10 (by decide +kernel) ?_
      refine iv_icmp_ge (tgt := 52) hx hb dX3_lackingReferrals_12 (by decide) (by omega) (by omega) (fun c_12 => ?_) (fun c_12 => by exfalso; omega)
      refine lv_iload_n hx hb dX3_lackingReferrals_52 rfl (lv_lk hl rfl) ?_
      refine iv_eq (((maskF (chainB 6 st mr.testBit z) 0 : Nat) : Int)) (by rw [← he9]; rfl) ?_
      exact W.iret hx hb hrt (fun t ht hW => ⟨rfl, ht⟩) hS.2.2 dX3_lackingReferrals_53 hlocks
    | succ n9 ih =>
      intro  i y mk hy hmk hi9 he9 locs ls hS hl
      refine lv_iload hx hb dX3_lackingReferrals_8 (lv_lk hl rfl) ?_
      refine iv_bipush hx hb dX3_lackingReferrals_10 (by decide +kernel) ?_
      refine iv_icmp_ge (tgt := 52) hx hb dX3_lackingReferrals_12 (by decide) (by omega) (by omega) (fun c_12 => by exfalso; omega) (fun c_12 => ?_)
      refine lv_aload_n hx hb dX3_lackingReferrals_15 rfl (lv_lk hl rfl) ?_
      refine lv_iload hx hb dX3_lackingReferrals_16 (lv_lk hl rfl) ?_
      refine lv_iload_n hx hb dX3_lackingReferrals_18 rfl (lv_lk hl rfl) ?_
      refine call_S (va_runV ⟨hx, hb, hml, hown, hts⟩ (m_X3_lacksReferral l E α st T hI y mr hy hmr) (cwV 2 hts (gi_V ml_X3_115 im_X3_lacksReferral sl_X3_lacksReferral it_X3 cd_X3_lacksReferral) rfl rfl rfl (by decide +kernel) ⟨Nat.le_of_ble_eq_true rfl, Nat.le_of_ble_eq_true rfl⟩) (pR_V (q0 := 0) (ci := 3) hP hK rfl rfl) rfl rfl hl.1 rfl (lv_room (Nat.le_of_ble_eq_true rfl)) dX3_lackingReferrals_19 ⟨Nat.le_of_ble_eq_true rfl, Nat.le_of_ble_eq_true rfl⟩) (fun _ h => h) hS rfl (fun locs hS => ?_)
      by_cases hc9 : y = 0 ∨ st (6 + 5 * y + 3) ≠ 0 ∨ mr.testBit y = true
      · refine iv_eq (0) (by rw [if_neg (fun h9 => h9 hc9)]) ?_
        refine iv_if_eq (tgt := 52) hx hb dX3_lackingReferrals_22 (by decide) (by omega) (fun c_22 => ?_) (fun c_22 => by exfalso; omega)
        refine lv_iload_n hx hb dX3_lackingReferrals_52 rfl (lv_lk hl rfl) ?_
        refine iv_eq (((maskF (chainB 6 st mr.testBit z) 0 : Nat) : Int)) (by rw [← he9, chainB_e hc9]; rfl) ?_
        exact W.iret hx hb hrt (fun t ht hW => ⟨rfl, ht⟩) hS.2.2 dX3_lackingReferrals_53 hlocks
      · refine iv_eq (1) (by rw [if_pos hc9]) ?_
        refine iv_if_eq (tgt := 52) hx hb dX3_lackingReferrals_22 (by decide) (by omega) (fun c_22 => by exfalso; omega) (fun c_22 => ?_)
        refine lv_iload_n hx hb dX3_lackingReferrals_25 rfl (lv_lk hl rfl) ?_
        refine iv_iconst hx hb dX3_lackingReferrals_26 ?_
        refine lv_iload hx hb dX3_lackingReferrals_27 (lv_lk hl rfl) ?_
        refine lv_ishl hx hb dX3_lackingReferrals_29 ?_
        refine lv_ior hx hb dX3_lackingReferrals_30 ?_
        rw [show I (mk : Int) ||| (I 1 <<< (I (y : Int) &&& 31)) = I ((mk ||| 2 ^ y : Nat) : Int) from mask_or ⟨mk, hmk⟩ ⟨y, hy⟩]
        refine lv_istore_n (lv' := [(3, .int (I _)), (0, .ref _), (1, .int (I _)), (2, .int (I _)), (4, .int (I _)), (5, .int (I _))]) hx hb dX3_lackingReferrals_31 rfl hl (by decide) rfl (fun ls hl => ?_)
        refine lv_aload_n hx hb dX3_lackingReferrals_32 rfl (lv_lk hl rfl) ?_
        refine va_get (D := E.1) (ci := 3) hx hb hts inX3 hown hK.1 hP 0 rfl rfl 1 (by decide) (hts _ fl_X3_12) (fun _ h9 => h9) rfl dX3_lackingReferrals_33 ?_
        refine va_get (D := E.1) (ci := 4) hx hb hts inX4 hown hK.1 hP 1 rfl rfl 0 (by decide) (hts _ fl_X3_85) (fun _ h9 => h9) rfl dX3_lackingReferrals_36 ?_
        refine lv_iload hx hb dX3_lackingReferrals_39 (lv_lk hl rfl) ?_
        refine call_S (va_runSN ⟨hx, hb, hml, hown, hts⟩ (m_X5_read l E (α 2) 6 y (cP st) (by omega) (by omega)) ⟨va_cnB 2 hts (gi_all cd_X5_read) rfl rfl rfl (nwK hK 3 rfl) (hts _ it_X5) (by decide +kernel) ⟨Nat.le_of_ble_eq_true rfl, Nat.le_of_ble_eq_true rfl⟩, hts _ st_X5_read, trivial⟩ (pR_S (hP.sub (ws' := [(α 2, iA E 6 (cP st))]) [2] rfl) hK) rfl rfl hl.1 rfl (lv_room (Nat.le_of_ble_eq_true rfl)) dX3_lackingReferrals_41 ⟨Nat.le_of_ble_eq_true rfl, Nat.le_of_ble_eq_true rfl⟩) (fun _ h => h) hS rfl (fun locs hS => ?_)
        refine iv_eq (((par st y : Nat) : Int)) ((IB_par hI (z := y) (by omega) hy).1) ?_
        refine lv_istore (lv' := [(4, .int (I _)), (3, .int (I _)), (0, .ref _), (1, .int (I _)), (2, .int (I _)), (5, .int (I _))]) hx hb dX3_lackingReferrals_44 hl (by decide) rfl (fun ls hl => ?_)
        refine iv_iinc (k := 5) hx hb dX3_lackingReferrals_46 hl rfl (((i + 1 : Nat) : Int)) (by omega) (by decide) [(5, .int (I _)), (4, .int (I _)), (3, .int (I _)), (0, .ref _), (1, .int (I _)), (2, .int (I _))] rfl (fun ls hl => ?_)
        refine lv_goto (tgt := 8) hx hb dX3_lackingReferrals_49 (by decide) ?_
        exact ih (i + 1) (par st y) (mk ||| 2 ^ y) (by have := IB_par hI (z := y) (by omega) hy; omega) (mask_lt hmk hy) (by omega) (by rw [← he9, chainB_s hc9]; rfl) locs ls hS (lv_sub hl [3, 4, 5, 2, 1, 0] rfl)
  exact LOOP8 6 0 z 0 hz (by decide) (by omega) rfl _ _ hS (lv_sub hl [3, 4, 5, 2, 1, 0] rfl)
set_option maxHeartbeats 4000000 in
set_option maxRecDepth 100000 in
theorem m_X3_askTheWay (l : Launch) (E : Env3) (α : Nat → Nat) (st : S) (hα : dR α 16) (T : Int) (hI : IB T st) (z : Nat) (hz : z < 6) : Met l yX3_askTheWay (Cond.code yX3_askTheWay cX3_askTheWay 5 none :: ALL) ({ frames := 2, cells := 0, slots := 0, locals := 47 }) (pR [.ref (α 0), .int (I (z : Int))] E (stW E α st)) (qW none E (stW E α st) (stW E α (come 6 st z))) 0 0 (adIn (stW E α st)) := by
  refine mk_met (by decide) rfl (Nat.le_of_ble_eq_true rfl) ?_
  intro p e s m args below meth c hx hb hrt hml hts hown hlocks hnm hP hK ls hl
  have hown : s.vm.findClass RX3 = some m.cls := hown
  have hl : lv_has ls 5 [(0, .ref (α 0)), (1, .int (I (z : Int)))] := hl
  have hD : va_D (adIn (stW E α st)) (stW E α st) := D_of_dR hα rfl
  have hS : va_S (adIn (stW E α st)) s.heap s.heap [] := va_S.rf
  obtain ⟨L, hL9⟩ : ∃ x, x = chainB 6 st (fun _ => false) z := ⟨_, rfl⟩
  have hL : ∀ q ∈ L, 1 ≤ q ∧ q ≤ z := by rw [hL9]; exact chain_lt hI _ 6 z hz
  obtain ⟨mk, hmk9⟩ : ∃ x, x = maskF L 0 := ⟨_, rfl⟩
  have hmk : mk < 64 := by rw [hmk9]; exact maskF_lt L 0 (by decide) (fun q hq => by have := hL q hq; omega)
  have htb : ∀ q, mk.testBit q = decide (q ∈ L) := fun q => by rw [hmk9, maskF_tb]; simp
  refine lv_aload_n hx hb dX3_askTheWay_0 rfl (lv_lk hl rfl) ?_
  refine lv_iload_n hx hb dX3_askTheWay_1 rfl (lv_lk hl rfl) ?_
  refine iv_iconst hx hb dX3_askTheWay_2 ?_
  refine call_S (va_runV ⟨hx, hb, hml, hown, hts⟩ (m_X3_lackingReferrals l E α st T hI z 0 hz (by decide)) (cwV 2 hts (gi_V ml_X3_81 im_X3_lackingReferrals sl_X3_lackingReferrals it_X3 cd_X3_lackingReferrals) rfl rfl rfl (by decide +kernel) ⟨Nat.le_of_ble_eq_true rfl, Nat.le_of_ble_eq_true rfl⟩) (pR_V (q0 := 0) (ci := 3) hP hK rfl rfl) rfl rfl hl.1 rfl (lv_room (Nat.le_of_ble_eq_true rfl)) dX3_askTheWay_3 ⟨Nat.le_of_ble_eq_true rfl, Nat.le_of_ble_eq_true rfl⟩) (fun _ h => h) hS rfl (fun locs hS => ?_)
  refine iv_eq (((mk : Nat) : Int)) (by rw [hmk9, hL9, show (Nat.testBit 0) = (fun _ => false) from funext (fun q => Nat.zero_testBit q)]) ?_
  refine lv_istore_n (lv' := [(2, .int (I _)), (0, .ref _), (1, .int (I _))]) hx hb dX3_askTheWay_6 rfl hl (by decide) rfl (fun ls hl => ?_)
  refine iv_iconst hx hb dX3_askTheWay_7 ?_
  refine lv_istore_n (lv' := [(3, .int (I _)), (2, .int (I _)), (0, .ref _), (1, .int (I _))]) hx hb dX3_askTheWay_8 rfl hl (by decide) rfl (fun ls hl => ?_)
  have LOOP9 : ∀ (n9 i : Nat), (i + n9 = 6) → ∀ (H : Heap) (locs : List Loc) (ls : Array Slot), va_P E.1 vwCl (stW E α (iter (fun s q => if q ∈ L then way2 s (par st q) q else s) i st)) H → va_S (adIn (stW E α st)) s.heap H locs → lv_has ls 5 [(0, .ref (α 0)), (1, .int (I (z : Int))), (2, .int (I (mk : Int))), (3, .int (I (i : Int)))] → W p l e ({ frames := 2, cells := 0, slots := 0, locals := 47 }) s m args below meth c H locs 0 0 (MQ below (qW none E (stW E α st) (stW E α (come 6 st z))) args s 0 0 (adIn (stW E α st))) (F0 m 9 ls []) := by
    intro n9
    induction n9 with
    | zero =>
      intro  i hi9 H locs ls hP hS hl
      obtain rfl : i = 6 := by omega
      refine lv_iload_n hx hb dX3_askTheWay_9 rfl (lv_lk hl rfl) ?_
      refine iv_bipush hx hb dX3_askTheWay_10 (by decide +kernel) ?_
      refine iv_icmp_ge (tgt := 89) hx hb dX3_askTheWay_12 (by decide) (by omega) (by omega) (fun c_12 => ?_) (fun c_12 => by exfalso; omega)
      exact W.vret hx hb hrt (fun t ht hW => ⟨rfl, by rw [ht]; exact (by rw [← come_iter hI hz, ← hL9]; exact hP), hS.F ht⟩) hS.2.2 dX3_askTheWay_89 hlocks
    | succ n9 ih =>
      intro  i hi9 H locs ls hP hS hl
      obtain ⟨s9, hs9⟩ : ∃ x, x = iter (fun s q => if q ∈ L then way2 s (par st q) q else s) i st := ⟨_, rfl⟩
      rw [← hs9] at hP
      have hw9 := iter_way hI L (fun q hq => (hL q hq).1) i (by omega)
      rw [← hs9] at hw9
      have h08 := hw9.1.1
      refine lv_iload_n hx hb dX3_askTheWay_9 rfl (lv_lk hl rfl) ?_
      refine iv_bipush hx hb dX3_askTheWay_10 (by decide +kernel) ?_
      refine iv_icmp_ge (tgt := 89) hx hb dX3_askTheWay_12 (by decide) (by omega) (by omega) (fun c_12 => by exfalso; omega) (fun c_12 => ?_)
      refine lv_iload_n hx hb dX3_askTheWay_15 rfl (lv_lk hl rfl) ?_
      refine lv_iload_n hx hb dX3_askTheWay_16 rfl (lv_lk hl rfl) ?_
      refine lv_ishr hx hb dX3_askTheWay_17 ?_
      refine iv_iconst hx hb dX3_askTheWay_18 ?_
      refine lv_iand hx hb dX3_askTheWay_19 ?_
      rw [show (I (mk : Int) >>> (I (i : Int) &&& 31)) &&& I 1 = I (if mk.testBit i then 1 else 0) from mask_bit ⟨mk, hmk⟩ ⟨i, by omega⟩]
      by_cases hm9 : i ∈ L
      · refine iv_eq (1) (by rw [if_pos (by rw [htb]; exact decide_eq_true hm9)]) ?_
        have hp9 := IB_par hI (z := i) (hL i hm9).1 (by omega)
        refine iv_if_eq (tgt := 83) hx hb dX3_askTheWay_20 (by decide) (by omega) (fun c_20 => by exfalso; omega) (fun c_20 => ?_)
        refine lv_aload_n hx hb dX3_askTheWay_23 rfl (lv_lk hl rfl) ?_
        refine va_get (D := E.1) (ci := 3) hx hb hts inX3 hown hK.1 hP 0 rfl rfl 1 (by decide) (hts _ fl_X3_12) (fun _ h9 => h9) rfl dX3_askTheWay_24 ?_
        refine va_get (D := E.1) (ci := 4) hx hb hts inX4 hown hK.1 hP 1 rfl rfl 0 (by decide) (hts _ fl_X3_85) (fun _ h9 => h9) rfl dX3_askTheWay_27 ?_
        refine lv_iload_n hx hb dX3_askTheWay_30 rfl (lv_lk hl rfl) ?_
        refine call_S (va_runSN ⟨hx, hb, hml, hown, hts⟩ (m_X5_read l E (α 2) 6 i (cP s9) (by omega) (by omega)) ⟨va_cnB 2 hts (gi_all cd_X5_read) rfl rfl rfl (nwK hK 3 rfl) (hts _ it_X5) (by decide +kernel) ⟨Nat.le_of_ble_eq_true rfl, Nat.le_of_ble_eq_true rfl⟩, hts _ st_X5_read, trivial⟩ (pR_S (hP.sub (ws' := [(α 2, iA E 6 (cP s9))]) [2] rfl) hK) rfl rfl hl.1 rfl (lv_room (Nat.le_of_ble_eq_true rfl)) dX3_askTheWay_31 ⟨Nat.le_of_ble_eq_true rfl, Nat.le_of_ble_eq_true rfl⟩) (fun _ h => h) hS rfl (fun locs hS => ?_)
        refine iv_eq (((par st i : Nat) : Int)) ((hw9.2 i (by omega)).trans hp9.1) ?_
        refine lv_istore (lv' := [(4, .int (I _)), (0, .ref _), (1, .int (I _)), (2, .int (I _)), (3, .int (I _))]) hx hb dX3_askTheWay_34 hl (by decide) rfl (fun ls hl => ?_)
        refine lv_aload_n hx hb dX3_askTheWay_36 rfl (lv_lk hl rfl) ?_
        refine va_get (D := E.1) (ci := 3) hx hb hts inX3 hown hK.1 hP 0 rfl rfl 5 (by decide) (hts _ fl_X3_35) (fun _ h9 => h9) rfl dX3_askTheWay_37 ?_
        refine lv_iload hx hb dX3_askTheWay_40 (lv_lk hl rfl) ?_
        refine call_W (va_runV ⟨hx, hb, hml, hown, hts⟩ (m_X0_countQuestionTo l E (α 14) (α 15) (s9 1) (s9 2) (s9 3) (s9 4) (s9 5) (cQ s9) (fun h => absurd (hα 14 15 (by decide) (by decide) h) (by decide)) (par st i) (by omega)) (cwV 1 hts (gi_V ml_X3_92 im_X0_countQuestionTo sl_X0_countQuestionTo it_X0 cd_X0_countQuestionTo) rfl rfl rfl (by decide +kernel) ⟨Nat.le_of_ble_eq_true rfl, Nat.le_of_ble_eq_true rfl⟩) (pR_V (q0 := 0) (ci := 0) (hP.sub (ws' := (accW E (α 14) (α 15) (s9 1) (s9 2) (s9 3) (s9 4) (s9 5) (cQ s9))) [14, 15] rfl) hK rfl rfl) rfl rfl hl.1 rfl (lv_room (Nat.le_of_ble_eq_true rfl)) dX3_askTheWay_42 ⟨Nat.le_of_ble_eq_true rfl, Nat.le_of_ble_eq_true rfl⟩) hP (dm hD rfl) hS [14, 15] rfl (by decide) rfl _ (rfl) rfl (fun H locs hP hS => ?_)
        have hP : va_P E.1 vwCl (stW E α (costs s9 (par st i))) H := w_cost (st := s9) (par st i) (by omega) hP
        refine lv_aload_n hx hb dX3_askTheWay_45 rfl (lv_lk hl rfl) ?_
        refine va_get (D := E.1) (ci := 3) hx hb hts inX3 hown hK.1 hP 0 rfl rfl 4 (by decide) (hts _ fl_X3_28) (fun _ h9 => h9) rfl dX3_askTheWay_46 ?_
        refine lv_iload_n hx hb dX3_askTheWay_49 rfl (lv_lk hl rfl) ?_
        refine lv_aload_n hx hb dX3_askTheWay_50 rfl (lv_lk hl rfl) ?_
        refine va_get (D := E.1) (ci := 3) hx hb hts inX3 hown hK.1 hP 0 rfl rfl 0 (by decide) (hts _ fl_X3_39) (fun _ h9 => h9) rfl dX3_askTheWay_51 ?_
        refine lv_aload_n hx hb dX3_askTheWay_54 rfl (lv_lk hl rfl) ?_
        refine va_get (D := E.1) (ci := 3) hx hb hts inX3 hown hK.1 hP 0 rfl rfl 1 (by decide) (hts _ fl_X3_12) (fun _ h9 => h9) rfl dX3_askTheWay_55 ?_
        refine va_get (D := E.1) (ci := 4) hx hb hts inX4 hown hK.1 hP 1 rfl rfl 1 (by decide) (hts _ fl_X3_95) (fun _ h9 => h9) rfl dX3_askTheWay_58 ?_
        refine lv_iload hx hb dX3_askTheWay_61 (lv_lk hl rfl) ?_
        refine call_S (va_runSN ⟨hx, hb, hml, hown, hts⟩ (m_X5_read l E (α 3) 6 (par st i) (cRA (costs s9 (par st i))) (by omega) (by omega)) ⟨va_cnB 2 hts (gi_all cd_X5_read) rfl rfl rfl (nwK hK 3 rfl) (hts _ it_X5) (by decide +kernel) ⟨Nat.le_of_ble_eq_true rfl, Nat.le_of_ble_eq_true rfl⟩, hts _ st_X5_read, trivial⟩ (pR_S (hP.sub (ws' := [(α 3, iA E 6 (cRA (costs s9 (par st i))))]) [3] rfl) hK) rfl rfl hl.1 rfl (lv_room (Nat.le_of_ble_eq_true rfl)) dX3_askTheWay_63 ⟨Nat.le_of_ble_eq_true rfl, Nat.le_of_ble_eq_true rfl⟩) (fun _ h => h) hS rfl (fun locs hS => ?_)
        refine iv_eq ((costs s9 (par st i)) (6 + 5 * ((par st i)) + 1)) (rfl) ?_
        refine iv_iadd hx hb dX3_askTheWay_66 ?_
        refine call_W (va_runSN ⟨hx, hb, hml, hown, hts⟩ (m_X5_write l E (α 13) 6 i (cE (costs s9 (par st i))) _ (by omega) (by omega)) ⟨va_cnB 3 hts (gi_all cd_X5_write) rfl rfl rfl (nwK hK 13 rfl) (hts _ it_X5) (by decide +kernel) ⟨Nat.le_of_ble_eq_true rfl, Nat.le_of_ble_eq_true rfl⟩, hts _ st_X5_write, trivial⟩ (pR_S (hP.sub (ws' := [(α 13, iA E 6 (cE (costs s9 (par st i))))]) [13] rfl) hK) rfl rfl hl.1 rfl (lv_room (Nat.le_of_ble_eq_true rfl)) dX3_askTheWay_67 ⟨Nat.le_of_ble_eq_true rfl, Nat.le_of_ble_eq_true rfl⟩) hP (dm hD rfl) hS [13] rfl (by decide) rfl _ (rfl) rfl (fun H locs hP hS => ?_)
        have hP : va_P E.1 vwCl (stW E α (up (costs s9 (par st i)) (6 + 5 * i + 3) (costs s9 (par st i) 0 + costs s9 (par st i) (6 + 5 * (par st i) + 1)))) H := w_ends (st := costs s9 (par st i)) i _ (by omega) hP
        have hP : va_P E.1 vwCl (stW E α (up (costs s9 (par st i)) (6 + 5 * i + 3) (costs s9 (par st i) 0 + costs s9 (par st i) (6 + 5 * (par st i) + 1)))) H := (hP)
        refine lv_aload_n hx hb dX3_askTheWay_70 rfl (lv_lk hl rfl) ?_
        refine va_get (D := E.1) (ci := 3) hx hb hts inX3 hown hK.1 hP 0 rfl rfl 5 (by decide) (hts _ fl_X3_35) (fun _ h9 => h9) rfl dX3_askTheWay_71 ?_
        refine lv_dup hx hb dX3_askTheWay_74 rfl ?_
        refine va_get (D := E.1) (ci := 0) hx hb hts inX0 hown hK.1 hP 14 rfl rfl 3 (by decide) (hts _ fl_X3_102) (fun _ h9 => h9) rfl dX3_askTheWay_75 ?_
        refine iv_iconst hx hb dX3_askTheWay_78 ?_
        refine iv_iadd hx hb dX3_askTheWay_79 ?_
        refine va_put (ci := 0) (ty := .int) hx hb hts inX0 tyX0 tyX0_ok nmX0 hown hK.1 hP (dm hD rfl) hS 14 rfl rfl 3 (by decide) (hts _ fl_X3_102) (fun _ h9 => h9) rfl (by decide +kernel) rfl rfl (Nat.le_of_ble_eq_true rfl) dX3_askTheWay_80 (fun H locs hP _ hS => ?_)
        have hP : va_P E.1 vwCl (stW E α (way2 s9 (par st i) i)) H := w_s4 (st := up (costs s9 (par st i)) (6 + 5 * i + 3) (costs s9 (par st i) 0 + costs s9 (par st i) (6 + 5 * (par st i) + 1))) _ hP
        have hP : va_P E.1 vwCl (stW E α (iter (fun s q => if q ∈ L then way2 s (par st q) q else s) (i + 1) st)) H := (by show va_P _ _ (stW E α (if i ∈ L then _ else _)) _; rw [if_pos hm9, ← hs9]; exact hP)
        refine iv_iinc (k := 4) hx hb dX3_askTheWay_83 hl rfl (((i + 1 : Nat) : Int)) (by omega) (by decide) [(3, .int (I _)), (4, .int (I _)), (0, .ref _), (1, .int (I _)), (2, .int (I _))] rfl (fun ls hl => ?_)
        refine lv_goto (tgt := 9) hx hb dX3_askTheWay_86 (by decide) ?_
        exact ih (i + 1) (by omega) H locs ls hP hS (lv_sub hl [2, 3, 4, 0] rfl)
      · refine iv_eq (0) (by rw [if_neg (by rw [htb]; simp [hm9])]) ?_
        refine iv_if_eq (tgt := 83) hx hb dX3_askTheWay_20 (by decide) (by omega) (fun c_20 => ?_) (fun c_20 => by exfalso; omega)
        have hP : va_P E.1 vwCl (stW E α (iter (fun s q => if q ∈ L then way2 s (par st q) q else s) (i + 1) st)) H := (by show va_P _ _ (stW E α (if i ∈ L then _ else _)) _; rw [if_neg hm9, ← hs9]; exact hP)
        refine iv_iinc (k := 3) hx hb dX3_askTheWay_83 hl rfl (((i + 1 : Nat) : Int)) (by omega) (by decide) [(3, .int (I _)), (0, .ref _), (1, .int (I _)), (2, .int (I _))] rfl (fun ls hl => ?_)
        refine lv_goto (tgt := 9) hx hb dX3_askTheWay_86 (by decide) ?_
        exact ih (i + 1) (by omega) H locs ls hP hS (lv_sub hl [1, 2, 3, 0] rfl)
  exact LOOP9 6 0 (by omega) _ _ _ hP hS (lv_sub hl [2, 3, 1, 0] rfl)
set_option maxHeartbeats 4000000 in
set_option maxRecDepth 100000 in
theorem m_X3_askRiddle (l : Launch) (E : Env3) (α : Nat → Nat) (st : S) (hα : dR α 16) (T : Int) (hI : IB T st) (r z : Nat) (hr : r < 36) (hz : z < 6) : Met l yX3_askRiddle (Cond.code yX3_askRiddle cX3_askRiddle 4 none :: ALL) ({ frames := 2, cells := 0, slots := 0, locals := 46 }) (pR [.ref (α 0), .int (I (r : Int)), .int (I (z : Int))] E (stW E α st)) (qW none E (stW E α st) (stW E α (hold (costs st z) r z))) 0 0 (adIn (stW E α st)) := by
  refine mk_met (by decide) rfl (Nat.le_of_ble_eq_true rfl) ?_
  intro p e s m args below meth c hx hb hrt hml hts hown hlocks hnm hP hK ls hl
  have hown : s.vm.findClass RX3 = some m.cls := hown
  have hl : lv_has ls 4 [(0, .ref (α 0)), (1, .int (I (r : Int))), (2, .int (I (z : Int)))] := hl
  have hD : va_D (adIn (stW E α st)) (stW E α st) := D_of_dR hα rfl
  have hS : va_S (adIn (stW E α st)) s.heap s.heap [] := va_S.rf
  refine lv_aload_n hx hb dX3_askRiddle_0 rfl (lv_lk hl rfl) ?_
  refine va_get (D := E.1) (ci := 3) hx hb hts inX3 hown hK.1 hP 0 rfl rfl 5 (by decide) (hts _ fl_X3_35) (fun _ h9 => h9) rfl dX3_askRiddle_1 ?_
  refine lv_iload_n hx hb dX3_askRiddle_4 rfl (lv_lk hl rfl) ?_
  refine call_W (va_runV ⟨hx, hb, hml, hown, hts⟩ (m_X0_countQuestionTo l E (α 14) (α 15) (st 1) (st 2) (st 3) (st 4) (st 5) (cQ st) (fun h => absurd (hα 14 15 (by decide) (by decide) h) (by decide)) z hz) (cwV 1 hts (gi_V ml_X3_92 im_X0_countQuestionTo sl_X0_countQuestionTo it_X0 cd_X0_countQuestionTo) rfl rfl rfl (by decide +kernel) ⟨Nat.le_of_ble_eq_true rfl, Nat.le_of_ble_eq_true rfl⟩) (pR_V (q0 := 0) (ci := 0) (hP.sub (ws' := (accW E (α 14) (α 15) (st 1) (st 2) (st 3) (st 4) (st 5) (cQ st))) [14, 15] rfl) hK rfl rfl) rfl rfl hl.1 rfl (lv_room (Nat.le_of_ble_eq_true rfl)) dX3_askRiddle_5 ⟨Nat.le_of_ble_eq_true rfl, Nat.le_of_ble_eq_true rfl⟩) hP (dm hD rfl) hS [14, 15] rfl (by decide) rfl _ (rfl) rfl (fun H locs hP hS => ?_)
  have hP : va_P E.1 vwCl (stW E α (costs st z)) H := w_cost (st := st) z hz hP
  obtain ⟨s1, hs1⟩ : ∃ x, x = costs st z := ⟨_, rfl⟩
  rw [← hs1] at hP
  have hI1 : IB T s1 := by rw [hs1]; exact IB_costs hI hz
  have t1 := (hI1.2.2.2 r hr).1
  unfold triT at t1
  refine lv_aload_n hx hb dX3_askRiddle_8 rfl (lv_lk hl rfl) ?_
  refine va_get (D := E.1) (ci := 3) hx hb hts inX3 hown hK.1 hP 0 rfl rfl 2 (by decide) (hts _ fl_X3_21) (fun _ h9 => h9) rfl dX3_askRiddle_9 ?_
  refine lv_iload_n hx hb dX3_askRiddle_12 rfl (lv_lk hl rfl) ?_
  refine call_S (va_runV ⟨hx, hb, hml, hown, hts⟩ (m_X2_kind l E (α 5) (α 6) (α 7) (α 8) (tK s1) (tV s1) (tA s1) r (by omega)) (cwV 1 hts (gi_V ml_X3_64 im_X2_kind sl_X2_kind it_X2 cd_X2_kind) rfl rfl rfl (by decide +kernel) ⟨Nat.le_of_ble_eq_true rfl, Nat.le_of_ble_eq_true rfl⟩) (pR_V (q0 := 0) (ci := 2) (hP.sub (ws' := (repW E (α 5) (α 6) (α 7) (α 8) (tK s1) (tV s1) (tA s1))) [5, 6, 7, 8] rfl) hK rfl rfl) rfl rfl hl.1 rfl (lv_room (Nat.le_of_ble_eq_true rfl)) dX3_askRiddle_13 ⟨Nat.le_of_ble_eq_true rfl, Nat.le_of_ble_eq_true rfl⟩) (fun _ h => h) hS rfl (fun locs hS => ?_)
  refine iv_eq (s1 (36 + 6 * r)) (rfl) ?_
  refine lv_istore_n (lv' := [(3, .int (I _)), (0, .ref _), (1, .int (I _)), (2, .int (I _))]) hx hb dX3_askRiddle_16 rfl hl (by decide) rfl (fun ls hl => ?_)
  refine lv_iload_n hx hb dX3_askRiddle_17 rfl (lv_lk hl rfl) ?_
  refine iv_if_ne (tgt := 50) hx hb dX3_askRiddle_18 (by decide) (by omega) (fun c_18 => ?_) (fun c_18 => ?_)
  · refine lv_aload_n hx hb dX3_askRiddle_50 rfl (lv_lk hl rfl) ?_
    refine va_get (D := E.1) (ci := 3) hx hb hts inX3 hown hK.1 hP 0 rfl rfl 3 (by decide) (hts _ fl_X3_25) (fun _ h9 => h9) rfl dX3_askRiddle_51 ?_
    refine lv_iload_n hx hb dX3_askRiddle_54 rfl (lv_lk hl rfl) ?_
    refine lv_iload_n hx hb dX3_askRiddle_55 rfl (lv_lk hl rfl) ?_
    refine lv_aload_n hx hb dX3_askRiddle_56 rfl (lv_lk hl rfl) ?_
    refine va_get (D := E.1) (ci := 3) hx hb hts inX3 hown hK.1 hP 0 rfl rfl 2 (by decide) (hts _ fl_X3_21) (fun _ h9 => h9) rfl dX3_askRiddle_57 ?_
    refine lv_iload_n hx hb dX3_askRiddle_60 rfl (lv_lk hl rfl) ?_
    refine call_S (va_runV ⟨hx, hb, hml, hown, hts⟩ (m_X2_value l E (α 5) (α 6) (α 7) (α 8) (tK s1) (tV s1) (tA s1) r (by omega)) (cwV 1 hts (gi_V ml_X3_68 im_X2_value sl_X2_value it_X2 cd_X2_value) rfl rfl rfl (by decide +kernel) ⟨Nat.le_of_ble_eq_true rfl, Nat.le_of_ble_eq_true rfl⟩) (pR_V (q0 := 0) (ci := 2) (hP.sub (ws' := (repW E (α 5) (α 6) (α 7) (α 8) (tK s1) (tV s1) (tA s1))) [5, 6, 7, 8] rfl) hK rfl rfl) rfl rfl hl.1 rfl (lv_room (Nat.le_of_ble_eq_true rfl)) dX3_askRiddle_61 ⟨Nat.le_of_ble_eq_true rfl, Nat.le_of_ble_eq_true rfl⟩) (fun _ h => h) hS rfl (fun locs hS => ?_)
    refine iv_eq (s1 (36 + 6 * r + 1)) (rfl) ?_
    refine lv_aload_n hx hb dX3_askRiddle_64 rfl (lv_lk hl rfl) ?_
    refine va_get (D := E.1) (ci := 3) hx hb hts inX3 hown hK.1 hP 0 rfl rfl 0 (by decide) (hts _ fl_X3_39) (fun _ h9 => h9) rfl dX3_askRiddle_65 ?_
    refine lv_aload_n hx hb dX3_askRiddle_68 rfl (lv_lk hl rfl) ?_
    refine va_get (D := E.1) (ci := 3) hx hb hts inX3 hown hK.1 hP 0 rfl rfl 2 (by decide) (hts _ fl_X3_21) (fun _ h9 => h9) rfl dX3_askRiddle_69 ?_
    refine lv_iload_n hx hb dX3_askRiddle_72 rfl (lv_lk hl rfl) ?_
    refine call_S (va_runV ⟨hx, hb, hml, hown, hts⟩ (m_X2_ticks l E (α 5) (α 6) (α 7) (α 8) (tK s1) (tV s1) (tA s1) r (by omega)) (cwV 1 hts (gi_V ml_X3_112 im_X2_ticks sl_X2_ticks it_X2 cd_X2_ticks) rfl rfl rfl (by decide +kernel) ⟨Nat.le_of_ble_eq_true rfl, Nat.le_of_ble_eq_true rfl⟩) (pR_V (q0 := 0) (ci := 2) (hP.sub (ws' := (repW E (α 5) (α 6) (α 7) (α 8) (tK s1) (tV s1) (tA s1))) [5, 6, 7, 8] rfl) hK rfl rfl) rfl rfl hl.1 rfl (lv_room (Nat.le_of_ble_eq_true rfl)) dX3_askRiddle_73 ⟨Nat.le_of_ble_eq_true rfl, Nat.le_of_ble_eq_true rfl⟩) (fun _ h => h) hS rfl (fun locs hS => ?_)
    refine iv_eq (s1 (36 + 6 * r + 2)) (rfl) ?_
    refine iv_iadd hx hb dX3_askRiddle_76 ?_
    refine call_W (va_runV ⟨hx, hb, hml, hown, hts⟩ (m_X2_put l E (α 9) (α 10) (α 11) (α 12) (mK s1) (mV s1) (mE s1) (((dm (ws' := stW E α s1) hD rfl).sub (ws' := (repW E (α 9) (α 10) (α 11) (α 12) (mK s1) (mV s1) (mE s1))) [9, 10, 11, 12] (by decide) rfl).weaken (fun _ _ _ _ => trivial)) r (by omega) (s1 (36 + 6 * r)) (s1 (36 + 6 * r + 1)) (s1 0 + s1 (36 + 6 * r + 2))) (cwV 4 hts (gi_V ml_X3_108 im_X2_put sl_X2_put it_X2 cd_X2_put) rfl rfl rfl (by decide +kernel) ⟨Nat.le_of_ble_eq_true rfl, Nat.le_of_ble_eq_true rfl⟩) (pR_V (q0 := 0) (ci := 2) (hP.sub (ws' := (repW E (α 9) (α 10) (α 11) (α 12) (mK s1) (mV s1) (mE s1))) [9, 10, 11, 12] rfl) hK rfl rfl) rfl rfl hl.1 rfl (lv_room (Nat.le_of_ble_eq_true rfl)) dX3_askRiddle_77 ⟨Nat.le_of_ble_eq_true rfl, Nat.le_of_ble_eq_true rfl⟩) hP (dm hD rfl) hS [9, 10, 11, 12] rfl (by decide) rfl _ (rfl) rfl (fun H locs hP hS => ?_)
    have hP : va_P E.1 vwCl (stW E α (up (up (up s1 (36 + 6 * r + 3) (s1 (36 + 6 * r))) (36 + 6 * r + 4) (s1 (36 + 6 * r + 1))) (36 + 6 * r + 5) (s1 0 + s1 (36 + 6 * r + 2)))) H := w_mem (st := s1) r _ _ (s1 (36 + 6 * r + 1)) _ (by omega) (by rw [if_neg c_18]) hP
    refine lv_aload_n hx hb dX3_askRiddle_80 rfl (lv_lk hl rfl) ?_
    refine va_get (D := E.1) (ci := 3) hx hb hts inX3 hown hK.1 hP 0 rfl rfl 5 (by decide) (hts _ fl_X3_35) (fun _ h9 => h9) rfl dX3_askRiddle_81 ?_
    refine lv_dup hx hb dX3_askRiddle_84 rfl ?_
    refine va_get (D := E.1) (ci := 0) hx hb hts inX0 hown hK.1 hP 14 rfl rfl 3 (by decide) (hts _ fl_X3_102) (fun _ h9 => h9) rfl dX3_askRiddle_85 ?_
    refine iv_iconst hx hb dX3_askRiddle_88 ?_
    refine iv_iadd hx hb dX3_askRiddle_89 ?_
    refine va_put (ci := 0) (ty := .int) hx hb hts inX0 tyX0 tyX0_ok nmX0 hown hK.1 hP (dm hD rfl) hS 14 rfl rfl 3 (by decide) (hts _ fl_X3_102) (fun _ h9 => h9) rfl (by decide +kernel) rfl rfl (Nat.le_of_ble_eq_true rfl) dX3_askRiddle_90 (fun H locs hP _ hS => ?_)
    have hP : va_P E.1 vwCl (stW E α (up (up (up (up s1 (36 + 6 * r + 3) (s1 (36 + 6 * r))) (36 + 6 * r + 4) (s1 (36 + 6 * r + 1))) (36 + 6 * r + 5) (s1 0 + s1 (36 + 6 * r + 2))) 4 ((up (up (up s1 (36 + 6 * r + 3) (s1 (36 + 6 * r))) (36 + 6 * r + 4) (s1 (36 + 6 * r + 1))) (36 + 6 * r + 5) (s1 0 + s1 (36 + 6 * r + 2))) 4 + 1))) H := w_s4 (st := up (up (up s1 (36 + 6 * r + 3) (s1 (36 + 6 * r))) (36 + 6 * r + 4) (s1 (36 + 6 * r + 1))) (36 + 6 * r + 5) (s1 0 + s1 (36 + 6 * r + 2))) _ hP
    exact W.vret hx hb hrt (fun t ht hW => ⟨rfl, by rw [ht]; exact (by have e4 : (up (up (up s1 (36 + 6 * r + 3) (s1 (36 + 6 * r))) (36 + 6 * r + 4) (s1 (36 + 6 * r + 1))) (36 + 6 * r + 5) (s1 0 + s1 (36 + 6 * r + 2))) 4 = s1 4 := (by rw [up_ne _ _ (by omega), up_ne _ _ (by omega), up_ne _ _ (by omega)]); rw [e4] at hP; rw [← hs1, hold_eq _ _ _ hr hz, if_neg c_18, if_neg c_18]; exact hP), hS.F ht⟩) hS.2.2 dX3_askRiddle_93 hlocks
  · refine lv_aload_n hx hb dX3_askRiddle_21 rfl (lv_lk hl rfl) ?_
    refine va_get (D := E.1) (ci := 3) hx hb hts inX3 hown hK.1 hP 0 rfl rfl 3 (by decide) (hts _ fl_X3_25) (fun _ h9 => h9) rfl dX3_askRiddle_22 ?_
    refine lv_iload_n hx hb dX3_askRiddle_25 rfl (lv_lk hl rfl) ?_
    refine iv_iconst hx hb dX3_askRiddle_26 ?_
    refine iv_iconst hx hb dX3_askRiddle_27 ?_
    refine lv_aload_n hx hb dX3_askRiddle_28 rfl (lv_lk hl rfl) ?_
    refine va_get (D := E.1) (ci := 3) hx hb hts inX3 hown hK.1 hP 0 rfl rfl 0 (by decide) (hts _ fl_X3_39) (fun _ h9 => h9) rfl dX3_askRiddle_29 ?_
    refine lv_aload_n hx hb dX3_askRiddle_32 rfl (lv_lk hl rfl) ?_
    refine va_get (D := E.1) (ci := 3) hx hb hts inX3 hown hK.1 hP 0 rfl rfl 1 (by decide) (hts _ fl_X3_12) (fun _ h9 => h9) rfl dX3_askRiddle_33 ?_
    refine va_get (D := E.1) (ci := 4) hx hb hts inX4 hown hK.1 hP 1 rfl rfl 2 (by decide) (hts _ fl_X3_105) (fun _ h9 => h9) rfl dX3_askRiddle_36 ?_
    refine lv_iload_n hx hb dX3_askRiddle_39 rfl (lv_lk hl rfl) ?_
    refine call_S (va_runSN ⟨hx, hb, hml, hown, hts⟩ (m_X5_read l E (α 4) 6 z (cRU s1) (by omega) (by omega)) ⟨va_cnB 2 hts (gi_all cd_X5_read) rfl rfl rfl (nwK hK 3 rfl) (hts _ it_X5) (by decide +kernel) ⟨Nat.le_of_ble_eq_true rfl, Nat.le_of_ble_eq_true rfl⟩, hts _ st_X5_read, trivial⟩ (pR_S (hP.sub (ws' := [(α 4, iA E 6 (cRU s1))]) [4] rfl) hK) rfl rfl hl.1 rfl (lv_room (Nat.le_of_ble_eq_true rfl)) dX3_askRiddle_40 ⟨Nat.le_of_ble_eq_true rfl, Nat.le_of_ble_eq_true rfl⟩) (fun _ h => h) hS rfl (fun locs hS => ?_)
    refine iv_eq (s1 (6 + 5 * z + 2)) (rfl) ?_
    refine iv_iadd hx hb dX3_askRiddle_43 ?_
    refine call_W (va_runV ⟨hx, hb, hml, hown, hts⟩ (m_X2_put l E (α 9) (α 10) (α 11) (α 12) (mK s1) (mV s1) (mE s1) (((dm (ws' := stW E α s1) hD rfl).sub (ws' := (repW E (α 9) (α 10) (α 11) (α 12) (mK s1) (mV s1) (mE s1))) [9, 10, 11, 12] (by decide) rfl).weaken (fun _ _ _ _ => trivial)) r (by omega) 3 (-1) (s1 0 + s1 (6 + 5 * z + 2))) (cwV 4 hts (gi_V ml_X3_108 im_X2_put sl_X2_put it_X2 cd_X2_put) rfl rfl rfl (by decide +kernel) ⟨Nat.le_of_ble_eq_true rfl, Nat.le_of_ble_eq_true rfl⟩) (pR_V (q0 := 0) (ci := 2) (hP.sub (ws' := (repW E (α 9) (α 10) (α 11) (α 12) (mK s1) (mV s1) (mE s1))) [9, 10, 11, 12] rfl) hK rfl rfl) rfl rfl hl.1 rfl (lv_room (Nat.le_of_ble_eq_true rfl)) dX3_askRiddle_44 ⟨Nat.le_of_ble_eq_true rfl, Nat.le_of_ble_eq_true rfl⟩) hP (dm hD rfl) hS [9, 10, 11, 12] rfl (by decide) rfl _ (rfl) rfl (fun H locs hP hS => ?_)
    have hP : va_P E.1 vwCl (stW E α (up (up (up s1 (36 + 6 * r + 3) 3) (36 + 6 * r + 4) (s1 (36 + 6 * r + 1))) (36 + 6 * r + 5) (s1 0 + s1 (6 + 5 * z + 2)))) H := w_mem (st := s1) r _ _ (s1 (36 + 6 * r + 1)) _ (by omega) (by rw [if_neg (by decide)]; omega) hP
    refine lv_goto (tgt := 80) hx hb dX3_askRiddle_47 (by decide) ?_
    refine lv_aload_n hx hb dX3_askRiddle_80 rfl (lv_lk hl rfl) ?_
    refine va_get (D := E.1) (ci := 3) hx hb hts inX3 hown hK.1 hP 0 rfl rfl 5 (by decide) (hts _ fl_X3_35) (fun _ h9 => h9) rfl dX3_askRiddle_81 ?_
    refine lv_dup hx hb dX3_askRiddle_84 rfl ?_
    refine va_get (D := E.1) (ci := 0) hx hb hts inX0 hown hK.1 hP 14 rfl rfl 3 (by decide) (hts _ fl_X3_102) (fun _ h9 => h9) rfl dX3_askRiddle_85 ?_
    refine iv_iconst hx hb dX3_askRiddle_88 ?_
    refine iv_iadd hx hb dX3_askRiddle_89 ?_
    refine va_put (ci := 0) (ty := .int) hx hb hts inX0 tyX0 tyX0_ok nmX0 hown hK.1 hP (dm hD rfl) hS 14 rfl rfl 3 (by decide) (hts _ fl_X3_102) (fun _ h9 => h9) rfl (by decide +kernel) rfl rfl (Nat.le_of_ble_eq_true rfl) dX3_askRiddle_90 (fun H locs hP _ hS => ?_)
    have hP : va_P E.1 vwCl (stW E α (up (up (up (up s1 (36 + 6 * r + 3) 3) (36 + 6 * r + 4) (s1 (36 + 6 * r + 1))) (36 + 6 * r + 5) (s1 0 + s1 (6 + 5 * z + 2))) 4 ((up (up (up s1 (36 + 6 * r + 3) 3) (36 + 6 * r + 4) (s1 (36 + 6 * r + 1))) (36 + 6 * r + 5) (s1 0 + s1 (6 + 5 * z + 2))) 4 + 1))) H := w_s4 (st := up (up (up s1 (36 + 6 * r + 3) 3) (36 + 6 * r + 4) (s1 (36 + 6 * r + 1))) (36 + 6 * r + 5) (s1 0 + s1 (6 + 5 * z + 2))) _ hP
    exact W.vret hx hb hrt (fun t ht hW => ⟨rfl, by rw [ht]; exact (by have e4 : (up (up (up s1 (36 + 6 * r + 3) 3) (36 + 6 * r + 4) (s1 (36 + 6 * r + 1))) (36 + 6 * r + 5) (s1 0 + s1 (6 + 5 * z + 2))) 4 = s1 4 := (by rw [up_ne _ _ (by omega), up_ne _ _ (by omega), up_ne _ _ (by omega)]); rw [e4] at hP; rw [← hs1, hold_eq _ _ _ hr hz, if_pos c_18, if_pos c_18]; exact hP), hS.F ht⟩) hS.2.2 dX3_askRiddle_93 hlocks
set_option maxHeartbeats 4000000 in
set_option maxRecDepth 100000 in
theorem m_X3_takeReply (l : Launch) (E : Env3) (α : Nat → Nat) (st : S) (hα : dR α 16) (T : Int) (hI : IB T st) (r : Nat) (hr : r < 36) : Met l yX3_takeReply (Cond.code yX3_takeReply cX3_takeReply 3 none :: ALL) ({ frames := 3, cells := 0, slots := 0, locals := 71 }) (pR [.ref (α 0), .int (I (r : Int))] E (stW E α st)) (qW none E (stW E α st) (stW E α (take st r))) 0 0 (adIn (stW E α st)) := by
  refine mk_met (by decide) rfl (Nat.le_of_ble_eq_true rfl) ?_
  intro p e s m args below meth c hx hb hrt hml hts hown hlocks hnm hP hK ls hl
  have hown : s.vm.findClass RX3 = some m.cls := hown
  have hl : lv_has ls 3 [(0, .ref (α 0)), (1, .int (I (r : Int)))] := hl
  have hD : va_D (adIn (stW E α st)) (stW E α st) := D_of_dR hα rfl
  have hS : va_S (adIn (stW E α st)) s.heap s.heap [] := va_S.rf
  have t3 := (hI.2.2.2 r hr).2
  unfold triM at t3
  refine lv_aload_n hx hb dX3_takeReply_0 rfl (lv_lk hl rfl) ?_
  refine va_get (D := E.1) (ci := 3) hx hb hts inX3 hown hK.1 hP 0 rfl rfl 3 (by decide) (hts _ fl_X3_25) (fun _ h9 => h9) rfl dX3_takeReply_1 ?_
  refine lv_iload_n hx hb dX3_takeReply_4 rfl (lv_lk hl rfl) ?_
  refine call_S (va_runV ⟨hx, hb, hml, hown, hts⟩ (m_X2_kind l E (α 9) (α 10) (α 11) (α 12) (mK st) (mV st) (mE st) r (by omega)) (cwV 1 hts (gi_V ml_X3_64 im_X2_kind sl_X2_kind it_X2 cd_X2_kind) rfl rfl rfl (by decide +kernel) ⟨Nat.le_of_ble_eq_true rfl, Nat.le_of_ble_eq_true rfl⟩) (pR_V (q0 := 0) (ci := 2) (hP.sub (ws' := (repW E (α 9) (α 10) (α 11) (α 12) (mK st) (mV st) (mE st))) [9, 10, 11, 12] rfl) hK rfl rfl) rfl rfl hl.1 rfl (lv_room (Nat.le_of_ble_eq_true rfl)) dX3_takeReply_5 ⟨Nat.le_of_ble_eq_true rfl, Nat.le_of_ble_eq_true rfl⟩) (fun _ h => h) hS rfl (fun locs hS => ?_)
  refine iv_eq (st (36 + 6 * r + 3)) (rfl) ?_
  refine iv_if_eq (tgt := 25) hx hb dX3_takeReply_8 (by decide) (by omega) (fun c_8 => ?_) (fun c_8 => ?_)
  · refine lv_iload_n hx hb dX3_takeReply_25 rfl (lv_lk hl rfl) ?_
    refine iv_bipush hx hb dX3_takeReply_26 (by decide +kernel) ?_
    refine iv_idiv hx hb dX3_takeReply_28 (((r / 6 : Nat) : Int)) (I_div (x := r) (y := 6) (by omega) (by omega)) (by omega) ?_
    refine lv_istore_n (lv' := [(2, .int (I _)), (0, .ref _), (1, .int (I _))]) hx hb dX3_takeReply_29 rfl hl (by decide) rfl (fun ls hl => ?_)
    refine lv_aload_n hx hb dX3_takeReply_30 rfl (lv_lk hl rfl) ?_
    refine lv_iload_n hx hb dX3_takeReply_31 rfl (lv_lk hl rfl) ?_
    refine call_F (va_runV ⟨hx, hb, hml, hown, hts⟩ (m_X3_askTheWay l E α st hα T hI (r / 6) (by omega)) (cwV 1 hts (gi_V ml_X3_74 im_X3_askTheWay sl_X3_askTheWay it_X3 cd_X3_askTheWay) rfl rfl rfl (by decide +kernel) ⟨Nat.le_of_ble_eq_true rfl, Nat.le_of_ble_eq_true rfl⟩) (pR_V (q0 := 0) (ci := 3) hP hK rfl rfl) rfl rfl hl.1 rfl (lv_room (Nat.le_of_ble_eq_true rfl)) dX3_takeReply_32 ⟨Nat.le_of_ble_eq_true rfl, Nat.le_of_ble_eq_true rfl⟩) (dm hD rfl) hS rfl (fun H locs hP hS => ?_)
    have hP : va_P E.1 vwCl (stW E α (come 6 st (r / 6))) H := hP
    refine lv_aload_n hx hb dX3_takeReply_35 rfl (lv_lk hl rfl) ?_
    refine lv_iload_n hx hb dX3_takeReply_36 rfl (lv_lk hl rfl) ?_
    refine lv_iload_n hx hb dX3_takeReply_37 rfl (lv_lk hl rfl) ?_
    refine call_F (va_runV ⟨hx, hb, hml, hown, hts⟩ (m_X3_askRiddle l E α (come 6 st (r / 6)) hα T (IB_come hI (by omega)) r (r / 6) hr (by omega)) (cwV 2 hts (gi_V ml_X3_77 im_X3_askRiddle sl_X3_askRiddle it_X3 cd_X3_askRiddle) rfl rfl rfl (by decide +kernel) ⟨Nat.le_of_ble_eq_true rfl, Nat.le_of_ble_eq_true rfl⟩) (pR_V (q0 := 0) (ci := 3) hP hK rfl rfl) rfl rfl hl.1 rfl (lv_room (Nat.le_of_ble_eq_true rfl)) dX3_takeReply_38 ⟨Nat.le_of_ble_eq_true rfl, Nat.le_of_ble_eq_true rfl⟩) (dm hD rfl) hS rfl (fun H locs hP hS => ?_)
    have hP : va_P E.1 vwCl (stW E α (hold (costs (come 6 st (r / 6)) (r / 6)) r (r / 6))) H := hP
    exact W.vret hx hb hrt (fun t ht hW => ⟨rfl, by rw [ht]; exact (by rw [take_pos c_8]; exact hP), hS.F ht⟩) hS.2.2 dX3_takeReply_41 hlocks
  · refine lv_aload_n hx hb dX3_takeReply_11 rfl (lv_lk hl rfl) ?_
    refine va_get (D := E.1) (ci := 3) hx hb hts inX3 hown hK.1 hP 0 rfl rfl 5 (by decide) (hts _ fl_X3_35) (fun _ h9 => h9) rfl dX3_takeReply_12 ?_
    refine lv_dup hx hb dX3_takeReply_15 rfl ?_
    refine va_get (D := E.1) (ci := 0) hx hb hts inX0 hown hK.1 hP 14 rfl rfl 2 (by decide) (hts _ fl_X3_71) (fun _ h9 => h9) rfl dX3_takeReply_16 ?_
    refine iv_iconst hx hb dX3_takeReply_19 ?_
    refine iv_iadd hx hb dX3_takeReply_20 ?_
    refine va_put (ci := 0) (ty := .int) hx hb hts inX0 tyX0 tyX0_ok nmX0 hown hK.1 hP (dm hD rfl) hS 14 rfl rfl 2 (by decide) (hts _ fl_X3_71) (fun _ h9 => h9) rfl (by decide +kernel) rfl rfl (Nat.le_of_ble_eq_true rfl) dX3_takeReply_21 (fun H locs hP _ hS => ?_)
    have hP : va_P E.1 vwCl (stW E α (up st 3 (st 3 + 1))) H := w_s3 (st := st) _ hP
    exact W.vret hx hb hrt (fun t ht hW => ⟨rfl, by rw [ht]; exact (by rw [take_neg c_8]; exact hP), hS.F ht⟩) hS.2.2 dX3_takeReply_24 hlocks
set_option maxHeartbeats 4000000 in
set_option maxRecDepth 100000 in
theorem m_X3_findResult (l : Launch) (E : Env3) (α : Nat → Nat) (st : S) (hα : dR α 16) (T : Int) (hI : IB T st) (r : Nat) (hr : r < 36) : Met l yX3_findResult (Cond.code yX3_findResult cX3_findResult 4 (some .int) :: ALL) ({ frames := 4, cells := 0, slots := 0, locals := 93 }) (pR [.ref (α 0), .int (I (r : Int))] E (stW E α st)) (qW (some (.int (I (solve1 st r).2))) E (stW E α st) (stW E α ((solve1 st r).1))) 0 0 (adIn (stW E α st)) := by
  refine mk_met (by decide) rfl (Nat.le_of_ble_eq_true rfl) ?_
  intro p e s m args below meth c hx hb hrt hml hts hown hlocks hnm hP hK ls hl
  have hown : s.vm.findClass RX3 = some m.cls := hown
  have hl : lv_has ls 4 [(0, .ref (α 0)), (1, .int (I (r : Int)))] := hl
  have hD : va_D (adIn (stW E α st)) (stW E α st) := D_of_dR hα rfl
  have hS : va_S (adIn (stW E α st)) s.heap s.heap [] := va_S.rf
  refine lv_aload_n hx hb dX3_findResult_0 rfl (lv_lk hl rfl) ?_
  refine va_get (D := E.1) (ci := 3) hx hb hts inX3 hown hK.1 hP 0 rfl rfl 5 (by decide) (hts _ fl_X3_35) (fun _ h9 => h9) rfl dX3_findResult_1 ?_
  refine lv_dup hx hb dX3_findResult_4 rfl ?_
  refine va_get (D := E.1) (ci := 0) hx hb hts inX0 hown hK.1 hP 14 rfl rfl 0 (by decide) (hts _ fl_X3_57) (fun _ h9 => h9) rfl dX3_findResult_5 ?_
  refine iv_iconst hx hb dX3_findResult_8 ?_
  refine iv_iadd hx hb dX3_findResult_9 ?_
  refine va_put (ci := 0) (ty := .int) hx hb hts inX0 tyX0 tyX0_ok nmX0 hown hK.1 hP (dm hD rfl) hS 14 rfl rfl 0 (by decide) (hts _ fl_X3_57) (fun _ h9 => h9) rfl (by decide +kernel) rfl rfl (Nat.le_of_ble_eq_true rfl) dX3_findResult_10 (fun H locs hP _ hS => ?_)
  have hP : va_P E.1 vwCl (stW E α (up st 1 (st 1 + 1))) H := w_s1 (st := st) _ hP
  refine lv_iload_n hx hb dX3_findResult_13 rfl (lv_lk hl rfl) ?_
  refine lv_istore_n (lv' := [(2, .int (I _)), (0, .ref _), (1, .int (I _))]) hx hb dX3_findResult_14 rfl hl (by decide) rfl (fun ls hl => ?_)
  refine iv_iconst hx hb dX3_findResult_15 ?_
  refine lv_istore_n (lv' := [(3, .int (I _)), (2, .int (I _)), (0, .ref _), (1, .int (I _))]) hx hb dX3_findResult_16 rfl hl (by decide) rfl (fun ls hl => ?_)
  have LOOP17 : ∀ (n9 i : Nat) (s1 : S) (q : Nat), (IB T s1) → (q < 36) → (i + n9 = 7) → (solvesF n9 s1 q = solvesF 7 (up st 1 (st 1 + 1)) r) → ∀ (H : Heap) (locs : List Loc) (ls : Array Slot), va_P E.1 vwCl (stW E α s1) H → va_S (adIn (stW E α st)) s.heap H locs → lv_has ls 4 [(0, .ref (α 0)), (1, .int (I (r : Int))), (2, .int (I (q : Int))), (3, .int (I (i : Int)))] → W p l e ({ frames := 4, cells := 0, slots := 0, locals := 93 }) s m args below meth c H locs 0 0 (MQ below (qW (some (.int (I (solve1 st r).2))) E (stW E α st) (stW E α ((solve1 st r).1))) args s 0 0 (adIn (stW E α st))) (F0 m 17 ls []) := by
    intro n9
    induction n9 with
    | zero =>
      intro  i s1 q hI1 hq hi9 he9 H locs ls hP hS hl
      refine lv_iload_n hx hb dX3_findResult_17 rfl (lv_lk hl rfl) ?_
      refine iv_bipush hx hb dX3_findResult_18 (by decide +kernel) ?_
      refine iv_icmp_gt (tgt := 64) hx hb dX3_findResult_20 (by decide) (by omega) (by omega) (fun c_20 => ?_) (fun c_20 => by exfalso; omega)
      refine iv_bipush hx hb dX3_findResult_64 (by decide +kernel) ?_
      refine iv_eq ((solve1 st r).2) (by show -2 = (solvesF 7 (up st 1 (st 1 + 1)) r).2; rw [← he9]; rfl) ?_
      exact W.iret hx hb hrt (fun t ht hW => ⟨rfl, by rw [ht]; exact (by show va_P _ _ (stW E α (solvesF 7 (up st 1 (st 1 + 1)) r).1) _; rw [← he9]; exact hP), hS.F ht⟩) hS.2.2 dX3_findResult_66 hlocks
    | succ n9 ih =>
      intro  i s1 q hI1 hq hi9 he9 H locs ls hP hS hl
      have hI2 : IB T (take s1 q) := IB_take hI1 hq
      have t4 := (hI2.2.2.2 q hq).2
      unfold triM at t4
      have t5 : ¬ take s1 q (36 + 6 * q + 3) = 0 := by rw [(take_own hI1 hq).1]; have t3 := (hI1.2.2.2 q hq).2; unfold triM at t3; unfold kV; (repeat split) <;> omega
      refine lv_iload_n hx hb dX3_findResult_17 rfl (lv_lk hl rfl) ?_
      refine iv_bipush hx hb dX3_findResult_18 (by decide +kernel) ?_
      refine iv_icmp_gt (tgt := 64) hx hb dX3_findResult_20 (by decide) (by omega) (by omega) (fun c_20 => by exfalso; omega) (fun c_20 => ?_)
      refine lv_aload_n hx hb dX3_findResult_23 rfl (lv_lk hl rfl) ?_
      refine lv_iload_n hx hb dX3_findResult_24 rfl (lv_lk hl rfl) ?_
      refine call_F (va_runV ⟨hx, hb, hml, hown, hts⟩ (m_X3_takeReply l E α s1 hα T hI1 q hq) (cwV 1 hts (gi_V ml_X3_60 im_X3_takeReply sl_X3_takeReply it_X3 cd_X3_takeReply) rfl rfl rfl (by decide +kernel) ⟨Nat.le_of_ble_eq_true rfl, Nat.le_of_ble_eq_true rfl⟩) (pR_V (q0 := 0) (ci := 3) hP hK rfl rfl) rfl rfl hl.1 rfl (lv_room (Nat.le_of_ble_eq_true rfl)) dX3_findResult_25 ⟨Nat.le_of_ble_eq_true rfl, Nat.le_of_ble_eq_true rfl⟩) (dm hD rfl) hS rfl (fun H locs hP hS => ?_)
      have hP : va_P E.1 vwCl (stW E α (take s1 q)) H := hP
      refine lv_aload_n hx hb dX3_findResult_28 rfl (lv_lk hl rfl) ?_
      refine va_get (D := E.1) (ci := 3) hx hb hts inX3 hown hK.1 hP 0 rfl rfl 3 (by decide) (hts _ fl_X3_25) (fun _ h9 => h9) rfl dX3_findResult_29 ?_
      refine lv_iload_n hx hb dX3_findResult_32 rfl (lv_lk hl rfl) ?_
      refine call_S (va_runV ⟨hx, hb, hml, hown, hts⟩ (m_X2_kind l E (α 9) (α 10) (α 11) (α 12) (mK (take s1 q)) (mV (take s1 q)) (mE (take s1 q)) q (by omega)) (cwV 1 hts (gi_V ml_X3_64 im_X2_kind sl_X2_kind it_X2 cd_X2_kind) rfl rfl rfl (by decide +kernel) ⟨Nat.le_of_ble_eq_true rfl, Nat.le_of_ble_eq_true rfl⟩) (pR_V (q0 := 0) (ci := 2) (hP.sub (ws' := (repW E (α 9) (α 10) (α 11) (α 12) (mK (take s1 q)) (mV (take s1 q)) (mE (take s1 q)))) [9, 10, 11, 12] rfl) hK rfl rfl) rfl rfl hl.1 rfl (lv_room (Nat.le_of_ble_eq_true rfl)) dX3_findResult_33 ⟨Nat.le_of_ble_eq_true rfl, Nat.le_of_ble_eq_true rfl⟩) (fun _ h => h) hS rfl (fun locs hS => ?_)
      refine iv_eq ((take s1 q) (36 + 6 * q + 3)) (rfl) ?_
      refine iv_iconst hx hb dX3_findResult_36 ?_
      refine iv_icmp_eq (tgt := 49) hx hb dX3_findResult_37 (by decide) (by omega) (by omega) (fun c_37 => ?_) (fun c_37 => ?_)
      · refine lv_aload_n hx hb dX3_findResult_49 rfl (lv_lk hl rfl) ?_
        refine va_get (D := E.1) (ci := 3) hx hb hts inX3 hown hK.1 hP 0 rfl rfl 3 (by decide) (hts _ fl_X3_25) (fun _ h9 => h9) rfl dX3_findResult_50 ?_
        refine lv_iload_n hx hb dX3_findResult_53 rfl (lv_lk hl rfl) ?_
        refine call_S (va_runV ⟨hx, hb, hml, hown, hts⟩ (m_X2_value l E (α 9) (α 10) (α 11) (α 12) (mK (take s1 q)) (mV (take s1 q)) (mE (take s1 q)) q (by omega)) (cwV 1 hts (gi_V ml_X3_68 im_X2_value sl_X2_value it_X2 cd_X2_value) rfl rfl rfl (by decide +kernel) ⟨Nat.le_of_ble_eq_true rfl, Nat.le_of_ble_eq_true rfl⟩) (pR_V (q0 := 0) (ci := 2) (hP.sub (ws' := (repW E (α 9) (α 10) (α 11) (α 12) (mK (take s1 q)) (mV (take s1 q)) (mE (take s1 q)))) [9, 10, 11, 12] rfl) hK rfl rfl) rfl rfl hl.1 rfl (lv_room (Nat.le_of_ble_eq_true rfl)) dX3_findResult_54 ⟨Nat.le_of_ble_eq_true rfl, Nat.le_of_ble_eq_true rfl⟩) (fun _ h => h) hS rfl (fun locs hS => ?_)
        refine iv_eq ((((take s1 q (36 + 6 * q + 4)).toNat : Nat) : Int)) ((if_neg t5).trans (IB_next hI2 hq c_37).1) ?_
        refine lv_istore_n (lv' := [(2, .int (I _)), (0, .ref _), (1, .int (I _)), (3, .int (I _))]) hx hb dX3_findResult_57 rfl hl (by decide) rfl (fun ls hl => ?_)
        refine iv_iinc (k := 3) hx hb dX3_findResult_58 hl rfl (((i + 1 : Nat) : Int)) (by omega) (by decide) [(3, .int (I _)), (2, .int (I _)), (0, .ref _), (1, .int (I _))] rfl (fun ls hl => ?_)
        refine lv_goto (tgt := 17) hx hb dX3_findResult_61 (by decide) ?_
        exact ih (i + 1) (take s1 q) (take s1 q (36 + 6 * q + 4)).toNat hI2 (IB_next hI2 hq c_37).2 (by omega) (by rw [← he9]; exact (solves_s c_37).symm) H locs ls hP hS (lv_sub hl [2, 3, 1, 0] rfl)
      · refine lv_aload_n hx hb dX3_findResult_40 rfl (lv_lk hl rfl) ?_
        refine va_get (D := E.1) (ci := 3) hx hb hts inX3 hown hK.1 hP 0 rfl rfl 3 (by decide) (hts _ fl_X3_25) (fun _ h9 => h9) rfl dX3_findResult_41 ?_
        refine lv_iload_n hx hb dX3_findResult_44 rfl (lv_lk hl rfl) ?_
        refine call_S (va_runV ⟨hx, hb, hml, hown, hts⟩ (m_X2_value l E (α 9) (α 10) (α 11) (α 12) (mK (take s1 q)) (mV (take s1 q)) (mE (take s1 q)) q (by omega)) (cwV 1 hts (gi_V ml_X3_68 im_X2_value sl_X2_value it_X2 cd_X2_value) rfl rfl rfl (by decide +kernel) ⟨Nat.le_of_ble_eq_true rfl, Nat.le_of_ble_eq_true rfl⟩) (pR_V (q0 := 0) (ci := 2) (hP.sub (ws' := (repW E (α 9) (α 10) (α 11) (α 12) (mK (take s1 q)) (mV (take s1 q)) (mE (take s1 q)))) [9, 10, 11, 12] rfl) hK rfl rfl) rfl rfl hl.1 rfl (lv_room (Nat.le_of_ble_eq_true rfl)) dX3_findResult_45 ⟨Nat.le_of_ble_eq_true rfl, Nat.le_of_ble_eq_true rfl⟩) (fun _ h => h) hS rfl (fun locs hS => ?_)
        refine iv_eq (take s1 q (36 + 6 * q + 4)) (if_neg t5) ?_
        refine iv_eq ((solve1 st r).2) (by show _ = (solvesF 7 (up st 1 (st 1 + 1)) r).2; rw [← he9, solvesF, if_neg c_37]; dsimp only; split <;> omega) ?_
        exact W.iret hx hb hrt (fun t ht hW => ⟨rfl, by rw [ht]; exact (by show va_P _ _ (stW E α (solvesF 7 (up st 1 (st 1 + 1)) r).1) _; rw [← he9, solvesF, if_neg c_37]; exact hP), hS.F ht⟩) hS.2.2 dX3_findResult_48 hlocks
  exact LOOP17 7 0 (up st 1 (st 1 + 1)) r (IB_free hI 1 _ (by omega)) hr (by omega) rfl _ _ _ hP hS (lv_sub hl [2, 3, 1, 0] rfl)
