/-! the law: a turn, its start, its loop; written by law8.py -/
set_option maxHeartbeats 2000000 in
set_option maxRecDepth 100000 in
theorem law_turn {p : Program} {l : Launch} {e : Jvm.Env} {s : State} {m : MethodId} {args : Array Value} {below : List Frame} {meth : Method} {c : Code} {H : Heap} {locs : List Loc} {cells slots : Nat} {Q : State → Prop} {ls : Array Slot} {b L : Nat} {xs : Nat → Int32} {E : Env3} {γ α β : Nat → Nat} {A : Nat → Prop} (hC : LawC p l s m args meth c b L xs E γ α β A) (t : Nat) (ht : t < 50) {st : S} {sv : Nat → S} {n : Nat} {q z r a mm ee : S} (hLI : LI9 st n t) (hL : LR st q z r a mm ee) (hc : CP0 E γ α A st sv n H) (hP : va_P E.1 vwCl (lwW E β q z r a mm ee) H) (hS : va_S (fun q => s.heap.size ≤ q) s.heap H locs)
    (hl : lv_has ls 17 (lvT b γ β t)) (hr1 : cells + 1633 ≤ room_1.cells) (hr2 : slots + 44070 ≤ room_1.slots)
    (kk : ∀ (H1 : Heap) (locs1 : List Loc) (ls1 : Array Slot), DynP s E γ α β A (t + 1) H1 locs1 → lv_has ls1 17 (lvT b γ β t) → W p l e room_1 s m args below meth c H1 locs1 (cells + 1633) (slots + 44070) Q (F0 m 738 ls1 [])) : W p l e room_1 s m args below meth c H locs cells slots Q (F0 m 108 ls []) := by
  obtain ⟨⟨hx, hb, hr, hml, hown, hlocks, hts⟩, ⟨hX, hbl, hL8⟩, ⟨hK, hKX, hZ, hl0⟩, ⟨hA, hA2, hAB, hβ⟩⟩ := id hC
  have hl : lv_has ls 17 [(0, .ref b), (1, .ref (γ 0)), (2, .ref (β 0)), (3, .ref (β 1)), (4, .ref (β 2)), (5, .ref (β 3)), (6, .ref (β 4)), (7, .ref (β 5)), (8, .int (I (t : Int)))] := hl
  refine lv_aload_n hx hb dL_law_108 rfl (lv_lk hl rfl) ?_
  refine iv_iconst hx hb dL_law_109 ?_
  refine lv_iload hx hb dL_law_110 (lv_lk hl rfl) ?_
  refine iv_imul hx hb dL_law_112 ?_
  refine iv_eq (((2 * t : Nat) : Int)) (by omega) ?_
  refine call_E (va_runS ⟨hx, hb, hml, hown, hts⟩ (m_L_cell l b L xs hL8 (2 * t) (by omega)) (va_cwS 2 hts (gi_S ml_L_125 st_L_cell it_L cd_L_cell) rfl rfl rfl (by decide +kernel) ⟨Nat.le_of_ble_eq_true rfl, Nat.le_of_ble_eq_true rfl⟩) (pC_S (hX.kept (hS.2.1 b hbl (Nat.not_le.mpr hbl)))) rfl rfl hl.1 rfl (lv_room (Nat.le_of_ble_eq_true rfl)) dL_law_113 ⟨by omega, by omega⟩) (fun _ h => h) hS (fun x locs _ hS => ?_)
  refine lv_istore (lv' := [(9, .int _), (0, .ref _), (1, .ref _), (2, .ref _), (3, .ref _), (4, .ref _), (5, .ref _), (6, .ref _), (7, .ref _), (8, .int (I _))]) hx hb dL_law_116 hl (by decide) rfl (fun ls hl => ?_)
  refine lv_aload_n hx hb dL_law_118 rfl (lv_lk hl rfl) ?_
  refine iv_iconst hx hb dL_law_119 ?_
  refine lv_iload hx hb dL_law_120 (lv_lk hl rfl) ?_
  refine iv_imul hx hb dL_law_122 ?_
  refine iv_iconst hx hb dL_law_123 ?_
  refine iv_iadd hx hb dL_law_124 ?_
  refine iv_eq (((2 * t + 1 : Nat) : Int)) (by omega) ?_
  refine call_E (va_runS ⟨hx, hb, hml, hown, hts⟩ (m_L_cell l b L xs hL8 (2 * t + 1) (by omega)) (va_cwS 2 hts (gi_S ml_L_125 st_L_cell it_L cd_L_cell) rfl rfl rfl (by decide +kernel) ⟨Nat.le_of_ble_eq_true rfl, Nat.le_of_ble_eq_true rfl⟩) (pC_S (hX.kept (hS.2.1 b hbl (Nat.not_le.mpr hbl)))) rfl rfl hl.1 rfl (lv_room (Nat.le_of_ble_eq_true rfl)) dL_law_125 ⟨by omega, by omega⟩) (fun _ h => h) hS (fun y locs _ hS => ?_)
  refine lv_istore (lv' := [(10, .int _), (9, .int _), (0, .ref _), (1, .ref _), (2, .ref _), (3, .ref _), (4, .ref _), (5, .ref _), (6, .ref _), (7, .ref _), (8, .int (I _))]) hx hb dL_law_128 hl (by decide) rfl (fun ls hl => ?_)
  refine lv_iload hx hb dL_law_130 (lv_lk hl rfl) ?_
  refine iv_bipush hx hb dL_law_132 (by decide +kernel) ?_
  refine iv_eq (((26 : Nat) : Int)) rfl ?_
  refine call_E (va_runS ⟨hx, hb, hml, hown, hts⟩ (m_L_low l E _ 26 (by omega)) (va_cwS 2 hts (gi_S ml_L_73 st_L_low it_L cd_L_low) rfl rfl rfl (by decide +kernel) ⟨Nat.le_of_ble_eq_true rfl, Nat.le_of_ble_eq_true rfl⟩) (pR_S (hP.sub (ws' := []) [] rfl) hK) rfl rfl hl.1 rfl (lv_room (Nat.le_of_ble_eq_true rfl)) dL_law_134 ⟨by omega, by omega⟩) (fun _ h => h) hS (fun v9 locs hv9 hS => ?_)
  obtain ⟨kd, hkd, rfl⟩ := hv9
  refine lv_istore (lv' := [(11, .int (I _)), (10, .int _), (9, .int _), (0, .ref _), (1, .ref _), (2, .ref _), (3, .ref _), (4, .ref _), (5, .ref _), (6, .ref _), (7, .ref _), (8, .int (I _))]) hx hb dL_law_137 hl (by decide) rfl (fun ls hl => ?_)
  have CUT159 : ∀ (w9 : Nat), (1 ≤ w9 ∧ w9 ≤ 36) → ∀ (H : Heap) (locs : List Loc) (ls : Array Slot), va_P E.1 vwCl (lwW E β q z r a mm ee) H → CP0 E γ α A st sv n H → va_S (fun q => s.heap.size ≤ q) s.heap H locs → lv_has ls 17 [(9, .int x), (10, .int y), (11, .int (I (kd : Int))), (0, .ref b), (1, .ref (γ 0)), (2, .ref (β 0)), (3, .ref (β 1)), (4, .ref (β 2)), (5, .ref (β 3)), (6, .ref (β 4)), (7, .ref (β 5)), (8, .int (I (t : Int)))] → W p l e room_1 s m args below meth c H locs cells slots Q (F0 m 159 ls [.int (I ((w9 : Nat) : Int)), .int y]) := by
    intro w9 hw9 H locs ls hP hc hS hl
    refine call_E (va_runS ⟨hx, hb, hml, hown, hts⟩ (m_L_low l E _ w9 (by omega)) (va_cwS 2 hts (gi_S ml_L_73 st_L_low it_L cd_L_low) rfl rfl rfl (by decide +kernel) ⟨Nat.le_of_ble_eq_true rfl, Nat.le_of_ble_eq_true rfl⟩) (pR_S (hP.sub (ws' := []) [] rfl) hK) rfl rfl hl.1 rfl (lv_room (Nat.le_of_ble_eq_true rfl)) dL_law_159 ⟨by omega, by omega⟩) (fun _ h => h) hS (fun v9 locs hv9 hS => ?_)
    obtain ⟨k, hk9, rfl⟩ := hv9
    have hk : k < 36 := by omega
    refine lv_istore (lv' := [(12, .int (I _)), (9, .int _), (10, .int _), (11, .int (I _)), (0, .ref _), (1, .ref _), (2, .ref _), (3, .ref _), (4, .ref _), (5, .ref _), (6, .ref _), (7, .ref _), (8, .int (I _))]) hx hb dL_law_162 hl (by decide) rfl (fun ls hl => ?_)
    have CUT188 : ∀ (y4 : Int32) (w9 : Nat), (1 ≤ w9 ∧ w9 ≤ 99) → ∀ (H : Heap) (locs : List Loc) (ls : Array Slot), va_P E.1 vwCl (lwW E β q z r a mm ee) H → CP0 E γ α A st sv n H → va_S (fun q => s.heap.size ≤ q) s.heap H locs → lv_has ls 17 [(9, .int x), (10, .int y), (11, .int (I (kd : Int))), (12, .int (I (k : Int))), (0, .ref b), (1, .ref (γ 0)), (2, .ref (β 0)), (3, .ref (β 1)), (4, .ref (β 2)), (5, .ref (β 3)), (6, .ref (β 4)), (7, .ref (β 5)), (8, .int (I (t : Int)))] → W p l e room_1 s m args below meth c H locs cells slots Q (F0 m 188 ls [.int (I ((w9 : Nat) : Int)), .int y4, .int (I 1)]) := by
      intro y4 w9 hw9 H locs ls hP hc hS hl
      refine call_E (va_runS ⟨hx, hb, hml, hown, hts⟩ (m_L_low l E _ w9 (by omega)) (va_cwS 2 hts (gi_S ml_L_73 st_L_low it_L cd_L_low) rfl rfl rfl (by decide +kernel) ⟨Nat.le_of_ble_eq_true rfl, Nat.le_of_ble_eq_true rfl⟩) (pR_S (hP.sub (ws' := []) [] rfl) hK) rfl rfl hl.1 rfl (lv_room (Nat.le_of_ble_eq_true rfl)) dL_law_188 ⟨by omega, by omega⟩) (fun _ h => h) hS (fun v9 locs hv9 hS => ?_)
      obtain ⟨j, hj, rfl⟩ := hv9
      refine iv_iadd hx hb dL_law_191 ?_
      refine lv_istore (lv' := [(13, .int (I _)), (9, .int _), (10, .int _), (11, .int (I _)), (12, .int (I _)), (0, .ref _), (1, .ref _), (2, .ref _), (3, .ref _), (4, .ref _), (5, .ref _), (6, .ref _), (7, .ref _), (8, .int (I _))]) hx hb dL_law_192 hl (by decide) rfl (fun ls hl => ?_)
      refine lv_iload hx hb dL_law_194 (lv_lk hl rfl) ?_
      refine iv_iconst hx hb dL_law_196 ?_
      refine iv_icmp_ge (tgt := 261) hx hb dL_law_197 (by decide) (by omega) (by omega) (fun c_197 => ?_) (fun c_197 => ?_)
      · refine lv_iload hx hb dL_law_261 (lv_lk hl rfl) ?_
        refine iv_bipush hx hb dL_law_263 (by decide +kernel) ?_
        refine iv_icmp_ge (tgt := 355) hx hb dL_law_265 (by decide) (by omega) (by omega) (fun c_265 => ?_) (fun c_265 => ?_)
        · refine lv_iload hx hb dL_law_355 (lv_lk hl rfl) ?_
          refine iv_bipush hx hb dL_law_357 (by decide +kernel) ?_
          refine iv_icmp_ne (tgt := 415) hx hb dL_law_359 (by decide) (by omega) (by omega) (fun c_359 => ?_) (fun c_359 => ?_)
          · refine lv_iload hx hb dL_law_415 (lv_lk hl rfl) ?_
            refine iv_bipush hx hb dL_law_417 (by decide +kernel) ?_
            refine iv_icmp_ne (tgt := 477) hx hb dL_law_419 (by decide) (by omega) (by omega) (fun c_419 => ?_) (fun c_419 => ?_)
            · refine lv_iload hx hb dL_law_477 (lv_lk hl rfl) ?_
              refine iv_bipush hx hb dL_law_479 (by decide +kernel) ?_
              refine iv_icmp_ne (tgt := 559) hx hb dL_law_481 (by decide) (by omega) (by omega) (fun c_481 => ?_) (fun c_481 => ?_)
              · refine lv_iload hx hb dL_law_559 (lv_lk hl rfl) ?_
                refine iv_bipush hx hb dL_law_561 (by decide +kernel) ?_
                refine iv_icmp_ge (tgt := 599) hx hb dL_law_563 (by decide) (by omega) (by omega) (fun c_563 => ?_) (fun c_563 => ?_)
                · refine lv_iload hx hb dL_law_599 (lv_lk hl rfl) ?_
                  refine iv_bipush hx hb dL_law_601 (by decide +kernel) ?_
                  refine iv_icmp_ne (tgt := 666) hx hb dL_law_603 (by decide) (by omega) (by omega) (fun c_603 => ?_) (fun c_603 => ?_)
                  · exact case_pass hC t ht hLI hL hc hP hS hk (u := 1 + (j : Int)) (by omega) (lv_sub hl [1, 2, 4, 0, 5, 6, 7, 8, 9, 10, 11, 12, 13] rfl) hr1 hr2 kk
                  · exact case_forget hC t ht hLI hL hc hP hS hk (u := 1 + (j : Int)) (by omega) (lv_sub hl [1, 2, 4, 0, 5, 6, 7, 8, 9, 10, 11, 12, 13] rfl) hr1 hr2 kk
                · exact case_solve hC t ht hLI hL hc hP hS hk (u := 1 + (j : Int)) (by omega) (lv_sub hl [1, 2, 4, 0, 5, 6, 7, 8, 9, 10, 11, 12, 13] rfl) hr1 hr2 kk
              · exact case_ages hC t ht hLI hL hc hP hS hk (u := 1 + (j : Int)) (by omega) (lv_sub hl [1, 2, 4, 0, 5, 6, 7, 8, 9, 10, 11, 12, 13] rfl) hr1 hr2 kk
            · exact case_parent hC t ht hLI hL hc hP hS hk (u := 1 + (j : Int)) (by omega) (lv_sub hl [1, 2, 4, 0, 5, 6, 7, 8, 9, 10, 11, 12, 13] rfl) hr1 hr2 kk
          · exact case_take hC t ht hLI hL hc hP hS hk (u := 1 + (j : Int)) (by omega) (lv_sub hl [1, 2, 4, 0, 5, 6, 7, 8, 9, 10, 11, 12, 13] rfl) hr1 hr2 kk
        · exact case_reference hC t ht hLI hL hc hP hS hk (u := 1 + (j : Int)) (by omega) (lv_sub hl [1, 2, 4, 0, 5, 6, 7, 8, 9, 10, 11, 12, 13] rfl) hr1 hr2 kk
      · exact case_answer hC t ht hLI hL hc hP hS hk (u := 1 + (j : Int)) (by omega) (lv_sub hl [1, 2, 4, 0, 5, 6, 7, 8, 9, 10, 11, 12, 13] rfl) hr1 hr2 kk
    refine iv_iconst hx hb dL_law_164 ?_
    refine lv_iload hx hb dL_law_165 (lv_lk hl rfl) ?_
    refine iv_iconst hx hb dL_law_167 ?_
    refine lv_ishr hx hb dL_law_168 ?_
    refine lv_iload hx hb dL_law_169 (lv_lk hl rfl) ?_
    refine iv_bipush hx hb dL_law_171 (by decide +kernel) ?_
    refine lv_ishr hx hb dL_law_173 ?_
    refine iv_iconst hx hb dL_law_174 ?_
    refine iv_eq (((2 : Nat) : Int)) rfl ?_
    refine call_E (va_runS ⟨hx, hb, hml, hown, hts⟩ (m_L_low l E _ 2 (by omega)) (va_cwS 2 hts (gi_S ml_L_73 st_L_low it_L cd_L_low) rfl rfl rfl (by decide +kernel) ⟨Nat.le_of_ble_eq_true rfl, Nat.le_of_ble_eq_true rfl⟩) (pR_S (hP.sub (ws' := []) [] rfl) hK) rfl rfl hl.1 rfl (lv_room (Nat.le_of_ble_eq_true rfl)) dL_law_175 ⟨by omega, by omega⟩) (fun _ h => h) hS (fun v9 locs hv9 hS => ?_)
    obtain ⟨v8, hv8, rfl⟩ := hv9
    refine iv_if_ne (tgt := 186) hx hb dL_law_178 (by decide) (by omega) (fun c_178 => ?_) (fun c_178 => ?_)
    · refine iv_bipush hx hb dL_law_186 (by decide +kernel) ?_
      refine iv_eq (((9 : Nat) : Int)) rfl ?_
      exact CUT188 _ 9 (by omega) _ _ _ hP hc hS (lv_sub hl [1, 2, 3, 0, 4, 5, 6, 7, 8, 9, 10, 11, 12] rfl)
    · refine iv_bipush hx hb dL_law_181 (by decide +kernel) ?_
      refine lv_goto (tgt := 188) hx hb dL_law_183 (by decide) ?_
      refine iv_eq (((99 : Nat) : Int)) rfl ?_
      exact CUT188 _ 99 (by omega) _ _ _ hP hc hS (lv_sub hl [1, 2, 3, 0, 4, 5, 6, 7, 8, 9, 10, 11, 12] rfl)
  refine lv_iload hx hb dL_law_139 (lv_lk hl rfl) ?_
  refine lv_iload hx hb dL_law_141 (lv_lk hl rfl) ?_
  refine iv_iconst hx hb dL_law_143 ?_
  refine lv_ishr hx hb dL_law_144 ?_
  refine iv_iconst hx hb dL_law_145 ?_
  refine iv_eq (((2 : Nat) : Int)) rfl ?_
  refine call_E (va_runS ⟨hx, hb, hml, hown, hts⟩ (m_L_low l E _ 2 (by omega)) (va_cwS 2 hts (gi_S ml_L_73 st_L_low it_L cd_L_low) rfl rfl rfl (by decide +kernel) ⟨Nat.le_of_ble_eq_true rfl, Nat.le_of_ble_eq_true rfl⟩) (pR_S (hP.sub (ws' := []) [] rfl) hK) rfl rfl hl.1 rfl (lv_room (Nat.le_of_ble_eq_true rfl)) dL_law_146 ⟨by omega, by omega⟩) (fun _ h => h) hS (fun v9 locs hv9 hS => ?_)
  obtain ⟨v8, hv8, rfl⟩ := hv9
  refine iv_if_ne (tgt := 157) hx hb dL_law_149 (by decide) (by omega) (fun c_149 => ?_) (fun c_149 => ?_)
  · refine iv_bipush hx hb dL_law_157 (by decide +kernel) ?_
    refine iv_eq (((9 : Nat) : Int)) rfl ?_
    exact CUT159 9 (by omega) _ _ _ hP hc hS (lv_sub hl [2, 1, 0, 3, 4, 5, 6, 7, 8, 9, 10, 11] rfl)
  · refine iv_bipush hx hb dL_law_152 (by decide +kernel) ?_
    refine lv_goto (tgt := 159) hx hb dL_law_154 (by decide) ?_
    refine iv_eq (((36 : Nat) : Int)) rfl ?_
    exact CUT159 36 (by omega) _ _ _ hP hc hS (lv_sub hl [2, 1, 0, 3, 4, 5, 6, 7, 8, 9, 10, 11] rfl)
def zI (i : Nat) : S := fun j => if j < 5 * i then ini9 (6 + j) else 0
theorem zI_0 : zI 0 = fun _ => 0 := by funext j; unfold zI; rw [if_neg (by omega)]
theorem zI_s {i : Nat} (hi : i < 6) : up (up (up (zI i) (5 * i) (pf9 i)) (5 * i + 1) 20) (5 * i + 2) 5 = zI (i + 1) := by
  obtain ⟨h0, h1, h2, h3, h4⟩ := ini_z i hi
  funext j
  by_cases c0 : j = 5 * i
  · subst c0
    rw [up_ne _ _ (by omega), up_ne _ _ (by omega), up_eq]
    unfold zI
    rw [if_pos (by omega), h0]
  by_cases c1 : j = 5 * i + 1
  · subst c1
    rw [up_ne _ _ (by omega), up_eq]
    unfold zI
    rw [if_pos (by omega)]
    exact h1.symm
  by_cases c2 : j = 5 * i + 2
  · subst c2
    rw [up_eq]
    unfold zI
    rw [if_pos (by omega)]
    exact h2.symm
  rw [up_ne _ _ c2, up_ne _ _ c1, up_ne _ _ c0]
  unfold zI
  by_cases c3 : j = 5 * i + 3
  · subst c3
    rw [if_neg (by omega), if_pos (by omega)]
    exact h3.symm
  by_cases c4 : j = 5 * i + 4
  · subst c4
    rw [if_neg (by omega), if_pos (by omega)]
    exact h4.symm
  by_cases c5 : j < 5 * i
  · rw [if_pos c5, if_pos (by omega)]
  · rw [if_neg c5, if_neg (by omega)]
theorem LR_ini : LR ini9 (fun _ => 0) (zI 6) (fun _ => 0) (fun _ => 0) (fun _ => 0) (fun _ => 0) := by
  refine ⟨fun j hj => ?_, fun j hj => ?_, fun k hk => ?_⟩
  · unfold ini9; rw [if_pos hj]
  · unfold zI; rw [if_pos (by omega)]
  · have h0 := ini_r k 0 (by decide)
    rw [Nat.add_zero] at h0
    rw [h0, ini_r k 3 (by decide)]
    exact ⟨⟨rfl, fun h => absurd rfl h⟩, rfl, fun h => absurd rfl h⟩
set_option maxHeartbeats 2000000 in
set_option maxRecDepth 100000 in
theorem law_init {p : Program} {l : Launch} {e : Jvm.Env} {s : State} {m : MethodId} {args : Array Value} {below : List Frame} {meth : Method} {c : Code} {H : Heap} {locs : List Loc} {cells slots : Nat} {Q : State → Prop} {ls : Array Slot} {b L : Nat} {xs : Nat → Int32} {E : Env3} {γ α β : Nat → Nat} {A : Nat → Prop} (hC : LawC p l s m args meth c b L xs E γ α β A) (hc : CP0 E γ α A ini9 (fun _ => ini9) 0 H) (hP : va_P E.1 vwCl (lwW E β (fun _ => 0) (fun _ => 0) (fun _ => 0) (fun _ => 0) (fun _ => 0) (fun _ => 0)) H) (hS : va_S (fun q => s.heap.size ≤ q) s.heap H locs)
    (hl : lv_has ls 17 [(7, .ref (β 5)), (6, .ref (β 4)), (5, .ref (β 3)), (4, .ref (β 2)), (3, .ref (β 1)), (2, .ref (β 0)), (1, .ref (γ 0)), (0, .ref b)])
    (kk : ∀ (H1 : Heap) (locs1 : List Loc) (ls1 : Array Slot), DynP s E γ α β A 0 H1 locs1 → lv_has ls1 17 (lvT b γ β 0) → W p l e room_1 s m args below meth c H1 locs1 cells slots Q (F0 m 101 ls1 [])) : W p l e room_1 s m args below meth c H locs cells slots Q (F0 m 42 ls []) := by
  obtain ⟨⟨hx, hb, hr, hml, hown, hlocks, hts⟩, ⟨hX, hbl, hL8⟩, ⟨hK, hKX, hZ, hl0⟩, ⟨hA, hA2, hAB, hβ⟩⟩ := id hC
  have hDn : ∀ q z r a mm ee : S, va_D (fun q => s.heap.size ≤ q) (lwW E β q z r a mm ee) := fun _ _ _ _ _ _ => (D_of_dR hβ rfl).weaken (fun _ _ _ h => hA2 _ (adB_in.mp h))
  refine iv_iconst hx hb dL_law_42 ?_
  refine lv_istore (lv' := [(8, .int (I _)), (7, .ref _), (6, .ref _), (5, .ref _), (4, .ref _), (3, .ref _), (2, .ref _), (1, .ref _), (0, .ref _)]) hx hb dL_law_43 hl (by decide) rfl (fun ls hl => ?_)
  have LOOP45 : ∀ (n9 i : Nat), (i + n9 = 6) → ∀ (H : Heap) (locs : List Loc) (ls : Array Slot), va_P E.1 vwCl (lwW E β (fun _ => 0) (zI i) (fun _ => 0) (fun _ => 0) (fun _ => 0) (fun _ => 0)) H → CP0 E γ α A ini9 (fun _ => ini9) 0 H → va_S (fun q => s.heap.size ≤ q) s.heap H locs → lv_has ls 17 [(8, .int (I (i : Int))), (0, .ref b), (1, .ref (γ 0)), (2, .ref (β 0)), (3, .ref (β 1)), (4, .ref (β 2)), (5, .ref (β 3)), (6, .ref (β 4)), (7, .ref (β 5))] → W p l e room_1 s m args below meth c H locs cells slots Q (F0 m 45 ls []) := by
    intro n9
    induction n9 with
    | zero =>
      intro  i hn8 H locs ls hP hc hS hl
      obtain rfl : i = 6 := by omega
      refine lv_iload hx hb dL_law_45 (lv_lk hl rfl) ?_
      refine iv_bipush hx hb dL_law_47 (by decide +kernel) ?_
      refine iv_icmp_ge (tgt := 98) hx hb dL_law_49 (by decide) (by omega) (by omega) (fun c_49 => ?_) (fun c_49 => by exfalso; omega)
      refine iv_iconst hx hb dL_law_98 ?_
      refine lv_istore (lv' := [(8, .int (I _)), (0, .ref _), (1, .ref _), (2, .ref _), (3, .ref _), (4, .ref _), (5, .ref _), (6, .ref _), (7, .ref _)]) hx hb dL_law_99 hl (by decide) rfl (fun ls hl => ?_)
      exact kk _ _ _ ⟨ini9, fun _ => ini9, 0, _, _, _, _, _, _, ⟨by omega, IB_ini, IT_ini, AC_ini, by decide⟩, LR_ini, hc, hP, hS⟩ (lv_sub hl [1, 2, 3, 4, 5, 6, 7, 8, 0] rfl)
    | succ n9 ih =>
      intro  i hn8 H locs ls hP hc hS hl
      refine lv_iload hx hb dL_law_45 (lv_lk hl rfl) ?_
      refine iv_bipush hx hb dL_law_47 (by decide +kernel) ?_
      refine iv_icmp_ge (tgt := 98) hx hb dL_law_49 (by decide) (by omega) (by omega) (fun c_49 => by exfalso; omega) (fun c_49 => ?_)
      refine lv_aload_n hx hb dL_law_52 rfl (lv_lk hl rfl) ?_
      refine iv_iconst hx hb dL_law_53 ?_
      refine lv_iload hx hb dL_law_54 (lv_lk hl rfl) ?_
      refine iv_imul hx hb dL_law_56 ?_
      refine lv_iload hx hb dL_law_57 (lv_lk hl rfl) ?_
      refine iv_if_ne (tgt := 66) hx hb dL_law_59 (by decide) (by omega) (fun c_59 => ?_) (fun c_59 => ?_)
      · refine lv_iload hx hb dL_law_66 (lv_lk hl rfl) ?_
        refine iv_iconst hx hb dL_law_68 ?_
        refine iv_isub hx hb dL_law_69 ?_
        refine iv_iconst hx hb dL_law_70 ?_
        refine iv_idiv hx hb dL_law_71 ((((i - 1) / 2 : Nat) : Int)) (by rw [show ((i : Int) - 1) = ((i - 1 : Nat) : Int) by omega]; exact I_div (x := i - 1) (y := 2) (by omega) (by omega)) (by omega) ?_
        refine iv_eq (pf9 i) (by unfold pf9; rw [if_neg (by omega)]) ?_
        refine iv_iastK hx hb hK hP (hDn _ _ _ _ _ _) hS 1 rfl (5 * i) (by omega) (by omega) dL_law_72 (lwW E β (fun _ => 0) (up (zI i) (5 * i) (pf9 i)) (fun _ => 0) (fun _ => 0) (fun _ => 0) (fun _ => 0)) (rfl) (fun H locs hP k1 k2 hS => ?_)
        have hc := CP_on _ _ hc k1 (fun q9 hq h9 => k2 q9 hq (fun h8 => hAB q9 h9 ⟨1, by omega, h8⟩))
        refine lv_aload_n hx hb dL_law_73 rfl (lv_lk hl rfl) ?_
        refine iv_iconst hx hb dL_law_74 ?_
        refine lv_iload hx hb dL_law_75 (lv_lk hl rfl) ?_
        refine iv_imul hx hb dL_law_77 ?_
        refine iv_iconst hx hb dL_law_78 ?_
        refine iv_iadd hx hb dL_law_79 ?_
        refine iv_bipush hx hb dL_law_80 (by decide +kernel) ?_
        refine iv_iastK hx hb hK hP (hDn _ _ _ _ _ _) hS 1 rfl (5 * i + 1) (by omega) (by omega) dL_law_82 (lwW E β (fun _ => 0) (up (up (zI i) (5 * i) (pf9 i)) (5 * i + 1) 20) (fun _ => 0) (fun _ => 0) (fun _ => 0) (fun _ => 0)) (rfl) (fun H locs hP k1 k2 hS => ?_)
        have hc := CP_on _ _ hc k1 (fun q9 hq h9 => k2 q9 hq (fun h8 => hAB q9 h9 ⟨1, by omega, h8⟩))
        refine lv_aload_n hx hb dL_law_83 rfl (lv_lk hl rfl) ?_
        refine iv_iconst hx hb dL_law_84 ?_
        refine lv_iload hx hb dL_law_85 (lv_lk hl rfl) ?_
        refine iv_imul hx hb dL_law_87 ?_
        refine iv_iconst hx hb dL_law_88 ?_
        refine iv_iadd hx hb dL_law_89 ?_
        refine iv_iconst hx hb dL_law_90 ?_
        refine iv_iastK hx hb hK hP (hDn _ _ _ _ _ _) hS 1 rfl (5 * i + 2) (by omega) (by omega) dL_law_91 (lwW E β (fun _ => 0) (up (up (up (zI i) (5 * i) (pf9 i)) (5 * i + 1) 20) (5 * i + 2) 5) (fun _ => 0) (fun _ => 0) (fun _ => 0) (fun _ => 0)) (rfl) (fun H locs hP k1 k2 hS => ?_)
        have hc := CP_on _ _ hc k1 (fun q9 hq h9 => k2 q9 hq (fun h8 => hAB q9 h9 ⟨1, by omega, h8⟩))
        have hP : va_P E.1 vwCl (lwW E β (fun _ => 0) (zI (i + 1)) (fun _ => 0) (fun _ => 0) (fun _ => 0) (fun _ => 0)) H := by rw [← zI_s (by omega)]; exact hP
        refine iv_iinc (k := 0) hx hb dL_law_92 hl rfl (((i + 1 : Nat) : Int)) (by omega) (by decide) [(8, .int (I _)), (0, .ref _), (1, .ref _), (2, .ref _), (3, .ref _), (4, .ref _), (5, .ref _), (6, .ref _), (7, .ref _)] rfl (fun ls hl => ?_)
        refine lv_goto (tgt := 45) hx hb dL_law_95 (by decide) ?_
        exact ih (i + 1) (by omega) H locs ls hP hc hS (lv_sub hl [0, 1, 2, 3, 4, 5, 6, 7, 8] rfl)
      · refine iv_iconst hx hb dL_law_62 ?_
        refine lv_goto (tgt := 72) hx hb dL_law_63 (by decide) ?_
        refine iv_eq (pf9 i) (by unfold pf9; rw [if_pos (by omega)]) ?_
        refine iv_iastK hx hb hK hP (hDn _ _ _ _ _ _) hS 1 rfl (5 * i) (by omega) (by omega) dL_law_72 (lwW E β (fun _ => 0) (up (zI i) (5 * i) (pf9 i)) (fun _ => 0) (fun _ => 0) (fun _ => 0) (fun _ => 0)) (rfl) (fun H locs hP k1 k2 hS => ?_)
        have hc := CP_on _ _ hc k1 (fun q9 hq h9 => k2 q9 hq (fun h8 => hAB q9 h9 ⟨1, by omega, h8⟩))
        refine lv_aload_n hx hb dL_law_73 rfl (lv_lk hl rfl) ?_
        refine iv_iconst hx hb dL_law_74 ?_
        refine lv_iload hx hb dL_law_75 (lv_lk hl rfl) ?_
        refine iv_imul hx hb dL_law_77 ?_
        refine iv_iconst hx hb dL_law_78 ?_
        refine iv_iadd hx hb dL_law_79 ?_
        refine iv_bipush hx hb dL_law_80 (by decide +kernel) ?_
        refine iv_iastK hx hb hK hP (hDn _ _ _ _ _ _) hS 1 rfl (5 * i + 1) (by omega) (by omega) dL_law_82 (lwW E β (fun _ => 0) (up (up (zI i) (5 * i) (pf9 i)) (5 * i + 1) 20) (fun _ => 0) (fun _ => 0) (fun _ => 0) (fun _ => 0)) (rfl) (fun H locs hP k1 k2 hS => ?_)
        have hc := CP_on _ _ hc k1 (fun q9 hq h9 => k2 q9 hq (fun h8 => hAB q9 h9 ⟨1, by omega, h8⟩))
        refine lv_aload_n hx hb dL_law_83 rfl (lv_lk hl rfl) ?_
        refine iv_iconst hx hb dL_law_84 ?_
        refine lv_iload hx hb dL_law_85 (lv_lk hl rfl) ?_
        refine iv_imul hx hb dL_law_87 ?_
        refine iv_iconst hx hb dL_law_88 ?_
        refine iv_iadd hx hb dL_law_89 ?_
        refine iv_iconst hx hb dL_law_90 ?_
        refine iv_iastK hx hb hK hP (hDn _ _ _ _ _ _) hS 1 rfl (5 * i + 2) (by omega) (by omega) dL_law_91 (lwW E β (fun _ => 0) (up (up (up (zI i) (5 * i) (pf9 i)) (5 * i + 1) 20) (5 * i + 2) 5) (fun _ => 0) (fun _ => 0) (fun _ => 0) (fun _ => 0)) (rfl) (fun H locs hP k1 k2 hS => ?_)
        have hc := CP_on _ _ hc k1 (fun q9 hq h9 => k2 q9 hq (fun h8 => hAB q9 h9 ⟨1, by omega, h8⟩))
        have hP : va_P E.1 vwCl (lwW E β (fun _ => 0) (zI (i + 1)) (fun _ => 0) (fun _ => 0) (fun _ => 0) (fun _ => 0)) H := by rw [← zI_s (by omega)]; exact hP
        refine iv_iinc (k := 0) hx hb dL_law_92 hl rfl (((i + 1 : Nat) : Int)) (by omega) (by decide) [(8, .int (I _)), (0, .ref _), (1, .ref _), (2, .ref _), (3, .ref _), (4, .ref _), (5, .ref _), (6, .ref _), (7, .ref _)] rfl (fun ls hl => ?_)
        refine lv_goto (tgt := 45) hx hb dL_law_95 (by decide) ?_
        exact ih (i + 1) (by omega) H locs ls hP hc hS (lv_sub hl [0, 1, 2, 3, 4, 5, 6, 7, 8] rfl)
  exact LOOP45 6 0 (by omega) _ _ _ (by rw [zI_0]; exact hP) hc hS (lv_sub hl [0, 8, 7, 6, 5, 4, 3, 2, 1] rfl)
set_option maxHeartbeats 1000000 in
set_option maxRecDepth 100000 in
theorem law_loop {p : Program} {l : Launch} {e : Jvm.Env} {s : State} {m : MethodId} {below : List Frame} {meth : Method} {c : Code} {b L : Nat} {xs : Nat → Int32} {E : Env3} {γ α β : Nat → Nat} {A : Nat → Prop} (hC : LawC p l s m #[Value.ref b] meth c b L xs E γ α β A) : ∀ (n9 t : Nat), t + n9 = 50 → ∀ (H : Heap) (locs : List Loc) (cells slots : Nat) (ls : Array Slot), cells ≤ 130 + 1633 * t → slots ≤ 2200 + 44070 * t → DynP s E γ α β A t H locs → lv_has ls 17 (lvT b γ β t) → W p l e room_1 s m #[Value.ref b] below meth c H locs cells slots (lw_Z below #[Value.ref b] s) (F0 m 101 ls []) := by
  have hx := hC.1.1
  have hb := hC.1.2.1
  have hr := hC.1.2.2.1
  have hlocks := hC.1.2.2.2.2.2.1
  have r1 : room_1.cells = 844020 := rfl
  have r2 : room_1.slots = 6569409 := rfl
  intro n9
  induction n9 with
  | zero =>
    intro t h1 H locs cells slots ls hc hs hD hl
    obtain rfl : t = 50 := by omega
    obtain ⟨st, sv, n, q, z, r, a, mm, ee, hLI, hL, hcp, hP, hS⟩ := hD
    have hl : lv_has ls 17 [(0, .ref b), (1, .ref (γ 0)), (2, .ref (β 0)), (3, .ref (β 1)), (4, .ref (β 2)), (5, .ref (β 3)), (6, .ref (β 4)), (7, .ref (β 5)), (8, .int (I ((50 : Nat) : Int)))] := hl
    refine lv_iload hx hb dL_law_101 (lv_lk hl rfl) ?_
    refine iv_bipush hx hb dL_law_103 (by decide +kernel) ?_
    refine iv_icmp_ge (tgt := 744) hx hb dL_law_105 (by decide) (by omega) (by omega) (fun _ => ?_) (fun h9 => by exfalso; omega)
    refine lv_iconst (v := 1) hx hb dL_law_744 (by decide) ?_
    refine va_forget (fun q hq => hS.2.2 q hq) ?_
    refine W.widen (k := 844020) (n := 6569409) (by omega) (by omega) ?_
    refine W.base ?_
    exact lw_ret (Drawn.sameBut.refl s.drawn lw_cs) hx hb hr hlocks dL_law_745
  | succ n9 ih =>
    intro t h1 H locs cells slots ls hc hs hD hl
    obtain ⟨st, sv, n, q, z, r, a, mm, ee, hLI, hL, hcp, hP, hS⟩ := hD
    have hl9 : lv_has ls 17 [(0, .ref b), (1, .ref (γ 0)), (2, .ref (β 0)), (3, .ref (β 1)), (4, .ref (β 2)), (5, .ref (β 3)), (6, .ref (β 4)), (7, .ref (β 5)), (8, .int (I (t : Int)))] := hl
    refine lv_iload hx hb dL_law_101 (lv_lk hl9 rfl) ?_
    refine iv_bipush hx hb dL_law_103 (by decide +kernel) ?_
    refine iv_icmp_ge (tgt := 744) hx hb dL_law_105 (by decide) (by omega) (by omega) (fun h9 => by exfalso; omega) (fun _ => ?_)
    refine law_turn hC t (by omega) hLI hL hcp hP hS hl (by omega) (by omega) (fun H1 locs1 ls1 hD1 hl1 => ?_)
    have hl1 : lv_has ls1 17 [(0, .ref b), (1, .ref (γ 0)), (2, .ref (β 0)), (3, .ref (β 1)), (4, .ref (β 2)), (5, .ref (β 3)), (6, .ref (β 4)), (7, .ref (β 5)), (8, .int (I (t : Int)))] := hl1
    refine iv_iinc (k := 8) hx hb dL_law_738 hl1 rfl (((t + 1 : Nat) : Int)) (by omega) (by decide) [(8, .int (I ((t + 1 : Nat) : Int))), (0, .ref b), (1, .ref (γ 0)), (2, .ref (β 0)), (3, .ref (β 1)), (4, .ref (β 2)), (5, .ref (β 3)), (6, .ref (β 4)), (7, .ref (β 5))] rfl (fun ls2 hl2 => ?_)
    refine lv_goto (tgt := 101) hx hb dL_law_741 (by decide) ?_
    exact ih (t + 1) (by omega) H1 locs1 _ _ ls2 (by omega) (by omega) hD1 (lv_sub hl2 [1, 2, 3, 4, 5, 6, 7, 8, 0] rfl)
theorem D_apart {A : Nat → Prop} {X Y : va_W} (hD : va_D A (X ++ Y)) {q : Nat} (h1 : adIn X q) (h2 : adIn Y q) : False := by
  obtain ⟨i, e, hi⟩ := h1
  obtain ⟨j, e', hj⟩ := h2
  have hl := (List.getElem?_eq_some_iff.mp hi).1
  have g1 : (X ++ Y)[i]? = some (q, e) := by rw [List.getElem?_append_left hl]; exact hi
  have g2 : (X ++ Y)[X.length + j]? = some (q, e') := by rw [List.getElem?_append_right (by omega), show X.length + j - X.length = j by omega]; exact hj
  have := hD.1 i (X.length + j) (q, e) (q, e') g1 g2 rfl
  omega
theorem D_inA {A : Nat → Prop} {ws : va_W} (hD : va_D A ws) {q : Nat} (h : adIn ws q) : A q := by
  obtain ⟨i, e, hi⟩ := h
  exact hD.2 i _ hi
theorem ap6 (P : va_W) (x0 x1 x2 x3 x4 x5 : Nat × va_E) : (((((P ++ [x0]) ++ [x1]) ++ [x2]) ++ [x3]) ++ [x4]) ++ [x5] = P ++ [x0, x1, x2, x3, x4, x5] := by simp
theorem D_right {A : Nat → Prop} {X Y : va_W} (hD : va_D A (X ++ Y)) : va_D A Y := by
  have g : ∀ (i : Nat) (x : Nat × va_E), Y[i]? = some x → (X ++ Y)[X.length + i]? = some x := fun i x h => by rw [List.getElem?_append_right (by omega), show X.length + i - X.length = i by omega]; exact h
  exact ⟨fun i j p q h1 h2 h3 => by have := hD.1 _ _ _ _ (g i p h1) (g j q h2) h3; omega, fun k q h => hD.2 _ _ (g k q h)⟩
set_option maxHeartbeats 4000000 in
set_option maxRecDepth 100000 in
theorem whole_start {p : Program} {e : Env} {s : State} {m : MethodId} {below : List Frame} {meth : Method} {c : Code} (l : Launch) (hflags : l.flags = flags0) {b L : Nat} {xs : Nat → Int32} (hL : L ≤ 260) (C0 : lw_At p s m meth c b L xs) : W p l e room_1 s m #[Value.ref b] below meth c s.heap [] 0 0 (lw_Z below #[Value.ref b] s) (entryFrame m ([Value.ref b] : List Value).toArray 17) := by
  obtain ⟨hx, hb, hr, hml, hown, hts0, hX, hbl, hlocks, hgv⟩ := C0
  have hts : ∀ w ∈ ALL, w.before #[Value.ref b] s = true := fun w h => hts0 w (qAL h)
  have hl0 : l.stackTraces = false := by
    unfold Launch.stackTraces
    rw [hflags]
    decide
  obtain ⟨E, hK⟩ := bg_KB hts0
  have hKX := bg_KX hts0 hgv
  have hZ := bg_ZX hts0 hgv
  have hown : s.vm.findClass RL = some m.cls := hown
  have hA : ∀ q : Nat, s.heap.size ≤ q → (fun q : Nat => s.heap.size ≤ q) q := fun _ h => h
  have hS : va_S (fun q : Nat => s.heap.size ≤ q) s.heap s.heap [] := va_S.rf
  have hP : va_P E.1 vwCl [] s.heap := va_P_nil
  have hD : va_D (fun q : Nat => s.heap.size ≤ q) [] := ⟨fun i j p q h => by simp at h, fun k q h => by simp at h⟩
  have hl := lv_entry ([.ref b]) (n := 17) (Nat.le_of_ble_eq_true rfl)
  rw [lg_entry_eq]
  generalize (lg_sl ([.ref b]) ++ List.replicate (17 - (lg_sl ([.ref b])).length) Slot.unset).toArray = ls at hl ⊢
  have hl : lv_has ls 17 [(0, .ref b)] := hl
  refine va_new (ci := 5) (fs := [.null, .null, .int (I 0), .null]) hx hb hts inX5 tyX5 tyX5_ok hown (hts _ cl_L_33) (hts _ ia_X5) (hts _ it_X5) hK.1 hP hD hS hA rfl (by intro j hj; rcases j with _ | _ | _ | _ | j <;> first | rfl | exact absurd hj (by omega)) (Nat.le_of_ble_eq_true rfl) (Nat.le_of_ble_eq_true rfl) dL_law_0 (fun q0 H hP hD hS => ?_)
  have hP : va_P E.1 vwCl [(q0, .inr (5, [.null, .null, .int (I 0), .null]))] H := hP
  have hD : va_D (fun q : Nat => s.heap.size ≤ q) [(q0, .inr (5, [.null, .null, .int (I 0), .null]))] := hD
  refine lv_dup hx hb dL_law_3 rfl ?_
  refine call_N (X := []) (Y := [(q0, .inr (5, [.null, .null, .int (I 0), .null]))]) (va_runI ⟨hx, hb, hml, hown, hts⟩ (m_X5_new l E q0) (cwI 0 hts (gi_all cd_X5_init) rfl rfl rfl (hts _ it_X5) (hts _ ml_L_124) (hts _ im_X5_init) rfl (by decide +kernel) ⟨Nat.le_of_ble_eq_true rfl, Nat.le_of_ble_eq_true rfl⟩) (pR_S hP hK) rfl rfl hl.1 rfl (lv_room (Nat.le_of_ble_eq_true rfl)) dL_law_4 ⟨Nat.le_of_ble_eq_true rfl, Nat.le_of_ble_eq_true rfl⟩) hP hD hS hA rfl (fun g H locs hP hD hS => ?_)
  obtain ⟨⟨γ, α, β⟩, hN, hg0⟩ := g
  have hN : ndP γ α β := hN
  obtain rfl : γ 0 = q0 := hg0
  have hP : va_P E.1 vwCl (pW E γ α β ini9 (fun _ => ini9) 0 0 0 (fun _ => 0) (fun _ => 0) (fun _ => 0)) H := hP
  have hD : va_D (fun q : Nat => s.heap.size ≤ q) (pW E γ α β ini9 (fun _ => ini9) 0 0 0 (fun _ => 0) (fun _ => 0) (fun _ => 0)) := hD
  refine lv_astore_n (lv' := [(1, .ref (γ 0)), (0, .ref b)]) hx hb dL_law_7 rfl hl (by decide) rfl (fun ls hl => ?_)
  refine iv_bipush hx hb dL_law_8 (by decide +kernel) ?_
  refine iv_newa hx hb (hts _ ac_int) hK hP hD hS hA 6 (by omega) (by omega) (Nat.le_of_ble_eq_true rfl) (Nat.le_of_ble_eq_true rfl) dL_law_10 (fun q2 H hP hD hS => ?_)
  refine lv_astore_n (lv' := [(2, .ref q2), (1, .ref (γ 0)), (0, .ref b)]) hx hb dL_law_12 rfl hl (by decide) rfl (fun ls hl => ?_)
  refine iv_bipush hx hb dL_law_13 (by decide +kernel) ?_
  refine iv_newa hx hb (hts _ ac_int) hK hP hD hS hA 30 (by omega) (by omega) (Nat.le_of_ble_eq_true rfl) (Nat.le_of_ble_eq_true rfl) dL_law_15 (fun q3 H hP hD hS => ?_)
  refine lv_astore_n (lv' := [(3, .ref q3), (2, .ref q2), (1, .ref (γ 0)), (0, .ref b)]) hx hb dL_law_17 rfl hl (by decide) rfl (fun ls hl => ?_)
  refine iv_bipush hx hb dL_law_18 (by decide +kernel) ?_
  refine iv_newa hx hb (hts _ ac_int) hK hP hD hS hA 36 (by omega) (by omega) (Nat.le_of_ble_eq_true rfl) (Nat.le_of_ble_eq_true rfl) dL_law_20 (fun q4 H hP hD hS => ?_)
  refine lv_astore (lv' := [(4, .ref q4), (3, .ref q3), (2, .ref q2), (1, .ref (γ 0)), (0, .ref b)]) hx hb dL_law_22 hl (by decide) rfl (fun ls hl => ?_)
  refine iv_bipush hx hb dL_law_24 (by decide +kernel) ?_
  refine iv_newa hx hb (hts _ ac_int) hK hP hD hS hA 36 (by omega) (by omega) (Nat.le_of_ble_eq_true rfl) (Nat.le_of_ble_eq_true rfl) dL_law_26 (fun q5 H hP hD hS => ?_)
  refine lv_astore (lv' := [(5, .ref q5), (4, .ref q4), (3, .ref q3), (2, .ref q2), (1, .ref (γ 0)), (0, .ref b)]) hx hb dL_law_28 hl (by decide) rfl (fun ls hl => ?_)
  refine iv_bipush hx hb dL_law_30 (by decide +kernel) ?_
  refine iv_newa hx hb (hts _ ac_int) hK hP hD hS hA 36 (by omega) (by omega) (Nat.le_of_ble_eq_true rfl) (Nat.le_of_ble_eq_true rfl) dL_law_32 (fun q6 H hP hD hS => ?_)
  refine lv_astore (lv' := [(6, .ref q6), (5, .ref q5), (4, .ref q4), (3, .ref q3), (2, .ref q2), (1, .ref (γ 0)), (0, .ref b)]) hx hb dL_law_34 hl (by decide) rfl (fun ls hl => ?_)
  refine iv_bipush hx hb dL_law_36 (by decide +kernel) ?_
  refine iv_newa hx hb (hts _ ac_int) hK hP hD hS hA 36 (by omega) (by omega) (Nat.le_of_ble_eq_true rfl) (Nat.le_of_ble_eq_true rfl) dL_law_38 (fun q7 H hP hD hS => ?_)
  refine lv_astore (lv' := [(7, .ref q7), (6, .ref q6), (5, .ref q5), (4, .ref q4), (3, .ref q3), (2, .ref q2), (1, .ref (γ 0)), (0, .ref b)]) hx hb dL_law_40 hl (by decide) rfl (fun ls hl => ?_)
  have hP : va_P E.1 vwCl ((pW E γ α β ini9 (fun _ => ini9) 0 0 0 (fun _ => 0) (fun _ => 0) (fun _ => 0)) ++ (lwW E (fun i => [q2, q3, q4, q5, q6, q7].getD i 0) (fun _ => 0) (fun _ => 0) (fun _ => 0) (fun _ => 0) (fun _ => 0) (fun _ => 0))) H := by
    have h9 := hP
    rw [ap6] at h9
    exact h9
  have hD : va_D (fun q : Nat => s.heap.size ≤ q) ((pW E γ α β ini9 (fun _ => ini9) 0 0 0 (fun _ => 0) (fun _ => 0) (fun _ => 0)) ++ (lwW E (fun i => [q2, q3, q4, q5, q6, q7].getD i 0) (fun _ => 0) (fun _ => 0) (fun _ => 0) (fun _ => 0) (fun _ => 0) (fun _ => 0))) := by
    have h9 := hD
    rw [ap6] at h9
    exact h9
  have hβ6 : dR (fun i => [q2, q3, q4, q5, q6, q7].getD i 0) 6 := dR_places (D_right hD) (fun i => i) (fun i hi => match i, hi with | 0, _ => ⟨_, rfl⟩ | 1, _ => ⟨_, rfl⟩ | 2, _ => ⟨_, rfl⟩ | 3, _ => ⟨_, rfl⟩ | 4, _ => ⟨_, rfl⟩ | 5, _ => ⟨_, rfl⟩ | i + 6, h9 => absurd h9 (by omega)) (fun i _ j _ h => h)
  have pm : ∀ q ∈ (pW E γ α β ini9 (fun _ => ini9) 0 0 0 (fun _ => 0) (fun _ => 0) (fun _ => 0)), q ∈ (pW E γ α β ini9 (fun _ => ini9) 0 0 0 (fun _ => 0) (fun _ => 0) (fun _ => 0)) ++ (lwW E (fun i => [q2, q3, q4, q5, q6, q7].getD i 0) (fun _ => 0) (fun _ => 0) (fun _ => 0) (fun _ => 0) (fun _ => 0) (fun _ => 0)) := fun q hq => List.mem_append_left _ hq
  have rm : ∀ q ∈ (lwW E (fun i => [q2, q3, q4, q5, q6, q7].getD i 0) (fun _ => 0) (fun _ => 0) (fun _ => 0) (fun _ => 0) (fun _ => 0) (fun _ => 0)), q ∈ (pW E γ α β ini9 (fun _ => ini9) 0 0 0 (fun _ => 0) (fun _ => 0) (fun _ => 0)) ++ (lwW E (fun i => [q2, q3, q4, q5, q6, q7].getD i 0) (fun _ => 0) (fun _ => 0) (fun _ => 0) (fun _ => 0) (fun _ => 0) (fun _ => 0)) := fun q hq => List.mem_append_right _ hq
  have hC : LawC p l s m #[Value.ref b] meth c b L xs E γ α (fun i => [q2, q3, q4, q5, q6, q7].getD i 0) (fun x => x ∈ adP γ α β) :=
    ⟨⟨hx, hb, hr, hml, hown, hlocks, hts⟩, ⟨hX, hbl, hL⟩, ⟨hK, hKX, hZ, hl0⟩,
      fun q hq => D_inA hD (adIn_mono pm (adP_in.mp hq)), fun q hq => D_inA hD (adIn_mono rm (adB_in.mpr hq)), fun q hq hq2 => D_apart hD (adP_in.mp hq) (adB_in.mpr hq2), hβ6⟩
  refine law_init hC ⟨β, 0, fun _ => 0, fun _ => 0, hN, fun x => Iff.rfl, P_mono pm hP⟩ (P_mono rm hP) hS hl (fun H1 locs1 ls1 hD1 hl1 => ?_)
  exact law_loop hC 50 0 (by omega) H1 locs1 _ _ ls1 (Nat.le_of_ble_eq_true rfl) (Nat.le_of_ble_eq_true rfl) hD1 hl1
