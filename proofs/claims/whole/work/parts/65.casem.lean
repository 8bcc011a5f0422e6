/-! the law's case of meanQuestions: two doubles, drawn where they are NaNs; written by cls22.py -/
theorem nan_dec {x : UInt64} (h : isNaN64 x = true) : FP.Core.decode FP.Core.b64 x.toNat = .nan := by
  rw [isNaN64_iff] at h
  have h1 : x.toNat &&& 0x7fffffffffffffff = x.toNat % 2 ^ 63 := Nat.and_two_pow_sub_one_eq_mod x.toNat 63
  rw [h1] at h
  have hE : FP.Core.fieldE FP.Core.b64 x.toNat = 2047 := by
    show x.toNat / 2 ^ 52 % 2 ^ 11 = 2047
    omega
  have hT : FP.Core.fieldT FP.Core.b64 x.toNat ≠ 0 := by
    show x.toNat % 2 ^ 52 ≠ 0
    omega
  unfold FP.Core.decode
  rw [if_pos (by rw [hE]; rfl), if_neg hT]
theorem nan_cmp {x : UInt64} (h : isNaN64 x = true) : ¬ Op.cmpValue (FP.dcmp x x) CmpOp.l = 0 := by
  have h1 : FP.dcmp x x = none := by
    show FP.Core.order (FP.Core.decode FP.Core.b64 x.toNat) (FP.Core.decode FP.Core.b64 x.toNat) = none
    rw [nan_dec h]
    rfl
  rw [h1]
  decide
theorem mq_two {st : S} {r q : UInt64} (h1 : mqP st r) (h2 : mqP st q) (h : ¬ Op.cmpValue (FP.dcmp r q) CmpOp.l = 0) : (¬ Op.cmpValue (FP.dcmp r r) CmpOp.l = 0) ∧ ¬ Op.cmpValue (FP.dcmp q q) CmpOp.l = 0 := by
  by_cases e : r = q
  · subst e; exact ⟨h, h⟩
  · have hn : isNaN64 r = true ∧ isNaN64 q = true := by
      unfold mqP at h1 h2
      split at h1
      · rename_i h0
        rw [if_pos h0] at h2
        exact absurd (h1.trans h2.symm) e
      · rename_i h0
        rw [if_neg h0] at h2
        simp only [alike64, Bool.or_eq_true, decide_eq_true_eq, Bool.and_eq_true] at h1 h2
        rcases h1 with h1 | h1 <;> rcases h2 with h2 | h2
        · exact absurd (h1.trans h2.symm) e
        · exact ⟨by rw [h1]; exact h2.2, h2.1⟩
        · exact ⟨h1.1, by rw [h2]; exact h1.2⟩
        · exact ⟨h1.1, h2.1⟩
    exact ⟨nan_cmp hn.1, nan_cmp hn.2⟩
set_option maxHeartbeats 1000000 in
set_option maxRecDepth 100000 in
theorem case_meanQuestions {p : Program} {l : Launch} {e : Jvm.Env} {s : State} {m : MethodId} {args : Array Value} {below : List Frame} {meth : Method} {c : Code} {H : Heap} {locs : List Loc} {cells slots : Nat} {Q : State → Prop} {ls : Array Slot} {b L : Nat} {xs : Nat → Int32} {E : Env3} {γ α ρ : Nat → Nat} {o : Nat} {A : Nat → Prop} {d0 : Drawn} (hd0 : s.drawn.sameBut d0 lw_cs) (hC : LawC p l s m args meth c b L xs E γ α ρ o A) (i : Nat) (hi4 : i + 4 ≤ L) (hl : lv_has ls 9 (lvL b γ ρ o i)) (hD : Dyn s E γ α ρ o A H locs) (hr1 : cells + 1 ≤ room_1.cells) (hr2 : slots + 6 ≤ room_1.slots)
    (kk : ∀ (d1 : Drawn), s.drawn.sameBut d1 lw_cs → ∀ (H1 : Heap) (locs1 : List Loc) (ls1 : Array Slot), Dyn s E γ α ρ o A H1 locs1 → lv_has ls1 9 (lvL b γ ρ o i) → W p l e room_1 (s.setDrawn d1) m args below meth c H1 locs1 (cells + 1) (slots + 6) Q (F0 m 1775 ls1 [])) : W p l e room_1 (s.setDrawn d0) m args below meth c H locs cells slots Q (F0 m 1382 ls []) := by
  obtain ⟨⟨hx, hb, hr, hml, -, hlocks, -⟩, -, -, ⟨hA, hA2, ho, hoA, hoR, hAR, hρ⟩⟩ := id hC
  obtain ⟨st, sv, n, N, tx, hi, hLI, hc, hrf, hou, hS⟩ := hD
  have hl : lv_has ls 9 [(0, .ref b), (1, .ref (γ 0)), (2, .ref (ρ 0)), (3, .ref o), (4, .int (I (i : Int)))] := hl
  obtain ⟨⟨-, -, -, -, hown, -, hts⟩, -, ⟨hK, -⟩, -⟩ := hC.drawn d0
  refine lv_aload_n hx hb dL_law_1382 rfl (lv_lk hl rfl) ?_
  refine va_calldD hd0 (va_runV_D (As := []) (rest := []) ⟨hx, hb, hml, hown, hts⟩ (mq_X5 l E γ α A st sv n N tx) (cwV 0 hts (gi_V ml_L_186 im_X5_meanQuestions sl_X5_meanQuestions it_X5 cd_X5_meanQuestions) rfl rfl rfl (by decide +kernel) ⟨Nat.le_of_ble_eq_true rfl, Nat.le_of_ble_eq_true rfl⟩) (pP_V hK hc (CP_0 _ hc) rfl) rfl rfl hl.1 rfl (lv_room (Nat.le_of_ble_eq_true rfl)) dL_law_1383 ⟨by omega, by omega⟩) hS (fun q _ h => h.elim) (fun q h => h.elim) (fun r u t H1 locs ht hvm hq1 hB hz1 hk1 hS d1 hd1 => ?_)
  have hc := CP_on _ _ hc hz1 (fun q hq _ => hk1 q hq (fun h9 => h9))
  have hrf := RPa_on _ _ hrf hz1 (fun q hq _ => hk1 q hq (fun h9 => h9))
  have hou := hou.kept (hk1 o hou.lt (fun h9 => h9))
  refine lv_dstore (lv' := [(5, .double r), (0, .ref b), (1, .ref (γ 0)), (2, .ref (ρ 0)), (3, .ref o), (4, .int (I (i : Int)))]) hx hb dL_law_1386 hl (by decide) rfl (fun ls hl => ?_)
  obtain ⟨⟨-, -, -, -, hown, -, hts⟩, -, ⟨hK, -⟩, -⟩ := hC.drawn d1
  refine lv_aload_n hx hb dL_law_1388 rfl (lv_lk hl rfl) ?_
  refine va_calldD hd1 (va_runV_D (As := []) (rest := []) ⟨hx, hb, hml, hown, hts⟩ (mq_X6 l E ρ hρ st hi n N tx) (cwV 0 hts (gi_V ml_L_190 im_X6_meanQuestions sl_X6_meanQuestions it_X6 cd_X6_meanQuestions) rfl rfl rfl (by decide +kernel) ⟨Nat.le_of_ble_eq_true rfl, Nat.le_of_ble_eq_true rfl⟩) (pP_V hK hrf (RPa_0 _ hrf) rfl) rfl rfl hl.1 rfl (lv_room (Nat.le_of_ble_eq_true rfl)) dL_law_1389 ⟨by omega, by omega⟩) hS (fun q _ h => hA2 q h) hA2 (fun r2 u2 t2 H2 locs ht2 hvm2 hq2 hB2 hz2 hk2 hS d2 hd2 => ?_)
  have hrf : RP E ρ 0 st hi n N tx H2 := by rw [← ht2]; exact hB2
  have hc := CP_on _ _ hc hz2 (fun q hq h9 => hk2 q hq (hAR q h9))
  have hou := hou.kept (hk2 o hou.lt hoR)
  refine lv_dstore (lv' := [(7, .double r2), (5, .double r), (0, .ref b), (1, .ref (γ 0)), (2, .ref (ρ 0)), (3, .ref o), (4, .int (I (i : Int)))]) hx hb dL_law_1392 hl (by decide) rfl (fun ls hl => ?_)
  have kk2 : ∀ ls1, lv_has ls1 9 (lvL b γ ρ o i) → W p l e room_1 (s.setDrawn d2) m args below meth c H2 locs (cells + 0 + 0) (slots + 0 + 0) Q (F0 m 1775 ls1 []) := fun ls1 hl1 => W.widen (k := cells + 1) (n := slots + 6) (by omega) (by omega) (kk d2 hd2 H2 locs ls1 ⟨st, sv, n, N, tx, hi, hLI, hc, ⟨_, hrf⟩, hou, hS⟩ hl1)
  refine lv_dload hx hb dL_law_1394 (lv_lk hl rfl) ?_
  refine lv_dload hx hb dL_law_1396 (lv_lk hl rfl) ?_
  refine lv_dcmp hx hb dL_law_1398 ?_
  refine lv_if_eq (tgt := 1420) hx hb dL_law_1399 (by decide) (fun h9 => ?_) (fun h9 => ?_)
  · refine lv_goto (tgt := 1775) hx hb dL_law_1420 (by decide) ?_
    exact kk2 _ (lv_sub hl [2, 3, 4, 5, 6] rfl)
  · obtain ⟨e1, e2⟩ := mq_two hq1 hq2 h9
    refine lv_dload hx hb dL_law_1402 (lv_lk hl rfl) ?_
    refine lv_dload hx hb dL_law_1404 (lv_lk hl rfl) ?_
    refine lv_dcmp hx hb dL_law_1406 ?_
    refine lv_if_eq (tgt := 1418) hx hb dL_law_1407 (by decide) (fun h8 => absurd h8 e1) (fun h8 => ?_)
    refine lv_dload hx hb dL_law_1410 (lv_lk hl rfl) ?_
    refine lv_dload hx hb dL_law_1412 (lv_lk hl rfl) ?_
    refine lv_dcmp hx hb dL_law_1414 ?_
    refine lv_if_ne (tgt := 1420) hx hb dL_law_1415 (by decide) (fun h7 => ?_) (fun h7 => absurd h7 e2)
    refine lv_goto (tgt := 1775) hx hb dL_law_1420 (by decide) ?_
    exact kk2 _ (lv_sub hl [2, 3, 4, 5, 6] rfl)
