/-! the cases of the law that call a face itself; written by cls21.py -/
set_option maxHeartbeats 400000 in
set_option maxRecDepth 100000 in
theorem case_time {p : Program} {l : Launch} {e : Jvm.Env} {s : State} {m : MethodId} {args : Array Value} {below : List Frame} {meth : Method} {c : Code} {H : Heap} {locs : List Loc} {cells slots : Nat} {Q : State → Prop} {ls : Array Slot} {b L : Nat} {xs : Nat → Int32} {E : Env3} {γ α ρ : Nat → Nat} {o : Nat} {A : Nat → Prop} (hC : LawC p l s m args meth c b L xs E γ α ρ o A) (i : Nat) (hi4 : i + 4 ≤ L) (hl : lv_has ls 9 (lvL b γ ρ o i)) (hD : Dyn s E γ α ρ o A H locs) (hr1 : cells + 1 ≤ room_1.cells) (hr2 : slots + 6 ≤ room_1.slots)
    (kk : ∀ (H1 : Heap) (locs1 : List Loc) (ls1 : Array Slot), Dyn s E γ α ρ o A H1 locs1 → lv_has ls1 9 (lvL b γ ρ o i) → W p l e room_1 s m args below meth c H1 locs1 (cells + 1) (slots + 6) Q (F0 m 1775 ls1 [])) : W p l e room_1 s m args below meth c H locs cells slots Q (F0 m 724 ls []) := by
  obtain ⟨⟨hx, hb, hr, hml, hown, hlocks, hts⟩, ⟨hX, hbl, hL8⟩, ⟨hK, hKX, hZ, hl0⟩, ⟨hA, hA2, ho, hoA, hoR, hAR, hρ⟩⟩ := id hC
  obtain ⟨st, sv, n, N, tx, hi, hLI, hc, hrf, hou, hS⟩ := hD
  have hl : lv_has ls 9 [(0, .ref b), (1, .ref (γ 0)), (2, .ref (ρ 0)), (3, .ref o), (4, .int (I (i : Int)))] := hl
  have hI := hLI.2.1
  have hT := hLI.2.2.1
  have hL := hLI
  refine lv_aload_n hx hb dL_law_724 rfl (lv_lk hl rfl) ?_
  have hM1 : Met l yX5_time (Cond.code yX5_time cX5_time 1 (some .int) :: ALL) ({ frames := 0, cells := 0, slots := 0, locals := 0 }) (pP [.ref (γ 0)] E (CP E γ α A st sv n N tx)) (qH (some (.int (I (st 0)))) A (CP E γ α A st sv n N tx)) 0 0 A := (cp_S (m_X5_time l E α (γ 0) (γ 1) (γ 2) (n : Int) st))
  have hM2 : Met l yX6_time (Cond.code yX6_time cX6_time 1 (some .int) :: ALL) ({ frames := 1, cells := 0, slots := 0, locals := 21 }) (pP [.ref (ρ 0)] E (RPa E ρ st hi n N tx)) (qH (some (.int (I (st 0)))) (adR ρ) (RP E ρ 0 st hi n N tx)) 0 0 (adR ρ) := (rp_W (fun th pa kd nm ke wy => m_X6_time l E ρ th (n : Int) (N : Int) pa kd nm st hi ke tx wy hρ))
  refine call_P (va_runV ⟨hx, hb, hml, hown, hts⟩ hM1 (cwV 0 hts (gi_V ml_L_128 im_X5_time sl_X5_time it_X5 cd_X5_time) rfl rfl rfl (by decide +kernel) ⟨Nat.le_of_ble_eq_true rfl, Nat.le_of_ble_eq_true rfl⟩) (pP_V hK hc (CP_0 _ hc) rfl) rfl rfl hl.1 rfl (lv_room (Nat.le_of_ble_eq_true rfl)) dL_law_725 ⟨by omega, by omega⟩) hA hS rfl (fun H1 locs k1 k2 hc hS => ?_)
  have hrf := RPa_on _ _ hrf k1 (fun q hq h9 => k2 q hq (fun h7 => hAR q h7 h9))
  have hou := hou.kept (k2 o hou.lt hoA)
  refine lv_aload_n hx hb dL_law_728 rfl (lv_lk hl rfl) ?_
  refine call_P (va_runV ⟨hx, hb, hml, hown, hts⟩ hM2 (cwV 0 hts (gi_V ml_L_131 im_X6_time sl_X6_time it_X6 cd_X6_time) rfl rfl rfl (by decide +kernel) ⟨Nat.le_of_ble_eq_true rfl, Nat.le_of_ble_eq_true rfl⟩) (pP_V hK hrf (RPa_0 _ hrf) rfl) rfl rfl hl.1 rfl (lv_room (Nat.le_of_ble_eq_true rfl)) dL_law_729 ⟨by omega, by omega⟩) hA2 hS rfl (fun H2 locs j1 j2 hrf hS => ?_)
  have hc := CP_on _ _ hc j1 (fun q hq h9 => j2 q hq (hAR q h9))
  have hou := hou.kept (j2 o hou.lt hoR)
  refine lv_icmp_eq (tgt := 1775) hx hb dL_law_732 (by decide) (fun _ => ?_) (fun h9 => absurd rfl h9)
  refine W.widen (k := cells + 1) (n := slots + 6) (by omega) (by omega) ?_
  exact kk _ _ _ ⟨st, sv, n, N, tx, hi, hLI, hc, ⟨_, hrf⟩, hou, hS⟩ hl
set_option maxHeartbeats 400000 in
set_option maxRecDepth 100000 in
theorem case_remembered {p : Program} {l : Launch} {e : Jvm.Env} {s : State} {m : MethodId} {args : Array Value} {below : List Frame} {meth : Method} {c : Code} {H : Heap} {locs : List Loc} {cells slots : Nat} {Q : State → Prop} {ls : Array Slot} {b L : Nat} {xs : Nat → Int32} {E : Env3} {γ α ρ : Nat → Nat} {o : Nat} {A : Nat → Prop} (hC : LawC p l s m args meth c b L xs E γ α ρ o A) (i : Nat) (hi4 : i + 4 ≤ L) (hl : lv_has ls 9 (lvL b γ ρ o i)) (hD : Dyn s E γ α ρ o A H locs) (hr1 : cells + 1 ≤ room_1.cells) (hr2 : slots + 6 ≤ room_1.slots)
    (kk : ∀ (H1 : Heap) (locs1 : List Loc) (ls1 : Array Slot), Dyn s E γ α ρ o A H1 locs1 → lv_has ls1 9 (lvL b γ ρ o i) → W p l e room_1 s m args below meth c H1 locs1 (cells + 1) (slots + 6) Q (F0 m 1775 ls1 [])) : W p l e room_1 s m args below meth c H locs cells slots Q (F0 m 1185 ls []) := by
  obtain ⟨⟨hx, hb, hr, hml, hown, hlocks, hts⟩, ⟨hX, hbl, hL8⟩, ⟨hK, hKX, hZ, hl0⟩, ⟨hA, hA2, ho, hoA, hoR, hAR, hρ⟩⟩ := id hC
  obtain ⟨st, sv, n, N, tx, hi, hLI, hc, hrf, hou, hS⟩ := hD
  have hl : lv_has ls 9 [(0, .ref b), (1, .ref (γ 0)), (2, .ref (ρ 0)), (3, .ref o), (4, .int (I (i : Int)))] := hl
  have hI := hLI.2.1
  have hT := hLI.2.2.1
  have hL := hLI
  refine lv_aload_n hx hb dL_law_1185 rfl (lv_lk hl rfl) ?_
  have hM1 : Met l yX5_remembered (Cond.code yX5_remembered cX5_remembered 1 (some .int) :: ALL) ({ frames := 3, cells := 0, slots := 0, locals := 64 }) (pP [.ref (γ 0)] E (CP E γ α A st sv n N tx)) (qH (some (.int (I (memo st)))) A (CP E γ α A st sv n N tx)) 0 0 A := (cp_S (m_X5_remembered l E α (γ 0) (γ 1) (γ 2) (n : Int) st 9999 hI))
  have hM2 : Met l yX6_remembered (Cond.code yX6_remembered cX6_remembered 1 (some .int) :: ALL) ({ frames := 2, cells := 0, slots := 0, locals := 44 }) (pP [.ref (ρ 0)] E (RPa E ρ st hi n N tx)) (qH (some (.int (I (memo st)))) (adR ρ) (RP E ρ 0 st hi n N tx)) 0 0 (adR ρ) := (rp_W (fun th pa kd nm ke wy => m_X6_remembered l E ρ th (n : Int) (N : Int) pa kd nm st hi ke tx wy hρ 9999 hI))
  refine call_P (va_runV ⟨hx, hb, hml, hown, hts⟩ hM1 (cwV 0 hts (gi_V ml_L_156 im_X5_remembered sl_X5_remembered it_X5 cd_X5_remembered) rfl rfl rfl (by decide +kernel) ⟨Nat.le_of_ble_eq_true rfl, Nat.le_of_ble_eq_true rfl⟩) (pP_V hK hc (CP_0 _ hc) rfl) rfl rfl hl.1 rfl (lv_room (Nat.le_of_ble_eq_true rfl)) dL_law_1186 ⟨by omega, by omega⟩) hA hS rfl (fun H1 locs k1 k2 hc hS => ?_)
  have hrf := RPa_on _ _ hrf k1 (fun q hq h9 => k2 q hq (fun h7 => hAR q h7 h9))
  have hou := hou.kept (k2 o hou.lt hoA)
  refine lv_aload_n hx hb dL_law_1189 rfl (lv_lk hl rfl) ?_
  refine call_P (va_runV ⟨hx, hb, hml, hown, hts⟩ hM2 (cwV 0 hts (gi_V ml_L_159 im_X6_remembered sl_X6_remembered it_X6 cd_X6_remembered) rfl rfl rfl (by decide +kernel) ⟨Nat.le_of_ble_eq_true rfl, Nat.le_of_ble_eq_true rfl⟩) (pP_V hK hrf (RPa_0 _ hrf) rfl) rfl rfl hl.1 rfl (lv_room (Nat.le_of_ble_eq_true rfl)) dL_law_1190 ⟨by omega, by omega⟩) hA2 hS rfl (fun H2 locs j1 j2 hrf hS => ?_)
  have hc := CP_on _ _ hc j1 (fun q hq h9 => j2 q hq (hAR q h9))
  have hou := hou.kept (j2 o hou.lt hoR)
  refine lv_icmp_eq (tgt := 1775) hx hb dL_law_1193 (by decide) (fun _ => ?_) (fun h9 => absurd rfl h9)
  refine W.widen (k := cells + 1) (n := slots + 6) (by omega) (by omega) ?_
  exact kk _ _ _ ⟨st, sv, n, N, tx, hi, hLI, hc, ⟨_, hrf⟩, hou, hS⟩ hl
set_option maxHeartbeats 400000 in
set_option maxRecDepth 100000 in
theorem case_rememberedByAccount {p : Program} {l : Launch} {e : Jvm.Env} {s : State} {m : MethodId} {args : Array Value} {below : List Frame} {meth : Method} {c : Code} {H : Heap} {locs : List Loc} {cells slots : Nat} {Q : State → Prop} {ls : Array Slot} {b L : Nat} {xs : Nat → Int32} {E : Env3} {γ α ρ : Nat → Nat} {o : Nat} {A : Nat → Prop} (hC : LawC p l s m args meth c b L xs E γ α ρ o A) (i : Nat) (hi4 : i + 4 ≤ L) (hl : lv_has ls 9 (lvL b γ ρ o i)) (hD : Dyn s E γ α ρ o A H locs) (hr1 : cells + 1 ≤ room_1.cells) (hr2 : slots + 6 ≤ room_1.slots)
    (kk : ∀ (H1 : Heap) (locs1 : List Loc) (ls1 : Array Slot), Dyn s E γ α ρ o A H1 locs1 → lv_has ls1 9 (lvL b γ ρ o i) → W p l e room_1 s m args below meth c H1 locs1 (cells + 1) (slots + 6) Q (F0 m 1775 ls1 [])) : W p l e room_1 s m args below meth c H locs cells slots Q (F0 m 1198 ls []) := by
  obtain ⟨⟨hx, hb, hr, hml, hown, hlocks, hts⟩, ⟨hX, hbl, hL8⟩, ⟨hK, hKX, hZ, hl0⟩, ⟨hA, hA2, ho, hoA, hoR, hAR, hρ⟩⟩ := id hC
  obtain ⟨st, sv, n, N, tx, hi, hLI, hc, hrf, hou, hS⟩ := hD
  have hl : lv_has ls 9 [(0, .ref b), (1, .ref (γ 0)), (2, .ref (ρ 0)), (3, .ref o), (4, .int (I (i : Int)))] := hl
  have hI := hLI.2.1
  have hT := hLI.2.2.1
  have hL := hLI
  refine lv_aload_n hx hb dL_law_1198 rfl (lv_lk hl rfl) ?_
  have hM1 : Met l yX5_rememberedByAccount (Cond.code yX5_rememberedByAccount cX5_rememberedByAccount 1 (some .int) :: ALL) ({ frames := 0, cells := 0, slots := 0, locals := 0 }) (pP [.ref (γ 0)] E (CP E γ α A st sv n N tx)) (qH (some (.int (I (st 4 - st 5)))) A (CP E γ α A st sv n N tx)) 0 0 A := (cp_S (m_X5_rememberedByAccount l E α (γ 0) (γ 1) (γ 2) (n : Int) st))
  have hM2 : Met l yX6_rememberedByAccount (Cond.code yX6_rememberedByAccount cX6_rememberedByAccount 1 (some .int) :: ALL) ({ frames := 1, cells := 0, slots := 0, locals := 21 }) (pP [.ref (ρ 0)] E (RPa E ρ st hi n N tx)) (qH (some (.int (I (st 4 - st 5)))) (adR ρ) (RP E ρ 0 st hi n N tx)) 0 0 (adR ρ) := (rp_W (fun th pa kd nm ke wy => m_X6_rememberedByAccount l E ρ th (n : Int) (N : Int) pa kd nm st hi ke tx wy hρ))
  refine call_P (va_runV ⟨hx, hb, hml, hown, hts⟩ hM1 (cwV 0 hts (gi_V ml_L_160 im_X5_rememberedByAccount sl_X5_rememberedByAccount it_X5 cd_X5_rememberedByAccount) rfl rfl rfl (by decide +kernel) ⟨Nat.le_of_ble_eq_true rfl, Nat.le_of_ble_eq_true rfl⟩) (pP_V hK hc (CP_0 _ hc) rfl) rfl rfl hl.1 rfl (lv_room (Nat.le_of_ble_eq_true rfl)) dL_law_1199 ⟨by omega, by omega⟩) hA hS rfl (fun H1 locs k1 k2 hc hS => ?_)
  have hrf := RPa_on _ _ hrf k1 (fun q hq h9 => k2 q hq (fun h7 => hAR q h7 h9))
  have hou := hou.kept (k2 o hou.lt hoA)
  refine lv_aload_n hx hb dL_law_1202 rfl (lv_lk hl rfl) ?_
  refine call_P (va_runV ⟨hx, hb, hml, hown, hts⟩ hM2 (cwV 0 hts (gi_V ml_L_163 im_X6_rememberedByAccount sl_X6_rememberedByAccount it_X6 cd_X6_rememberedByAccount) rfl rfl rfl (by decide +kernel) ⟨Nat.le_of_ble_eq_true rfl, Nat.le_of_ble_eq_true rfl⟩) (pP_V hK hrf (RPa_0 _ hrf) rfl) rfl rfl hl.1 rfl (lv_room (Nat.le_of_ble_eq_true rfl)) dL_law_1203 ⟨by omega, by omega⟩) hA2 hS rfl (fun H2 locs j1 j2 hrf hS => ?_)
  have hc := CP_on _ _ hc j1 (fun q hq h9 => j2 q hq (hAR q h9))
  have hou := hou.kept (j2 o hou.lt hoR)
  refine lv_icmp_eq (tgt := 1775) hx hb dL_law_1206 (by decide) (fun _ => ?_) (fun h9 => absurd rfl h9)
  refine W.widen (k := cells + 1) (n := slots + 6) (by omega) (by omega) ?_
  exact kk _ _ _ ⟨st, sv, n, N, tx, hi, hLI, hc, ⟨_, hrf⟩, hou, hS⟩ hl
set_option maxHeartbeats 400000 in
set_option maxRecDepth 100000 in
theorem case_ticksUntilForgetting {p : Program} {l : Launch} {e : Jvm.Env} {s : State} {m : MethodId} {args : Array Value} {below : List Frame} {meth : Method} {c : Code} {H : Heap} {locs : List Loc} {cells slots : Nat} {Q : State → Prop} {ls : Array Slot} {b L : Nat} {xs : Nat → Int32} {E : Env3} {γ α ρ : Nat → Nat} {o : Nat} {A : Nat → Prop} (hC : LawC p l s m args meth c b L xs E γ α ρ o A) (i : Nat) (hi4 : i + 4 ≤ L) (hl : lv_has ls 9 (lvL b γ ρ o i)) (hD : Dyn s E γ α ρ o A H locs) (hr1 : cells + 1 ≤ room_1.cells) (hr2 : slots + 6 ≤ room_1.slots)
    (kk : ∀ (H1 : Heap) (locs1 : List Loc) (ls1 : Array Slot), Dyn s E γ α ρ o A H1 locs1 → lv_has ls1 9 (lvL b γ ρ o i) → W p l e room_1 s m args below meth c H1 locs1 (cells + 1) (slots + 6) Q (F0 m 1775 ls1 [])) : W p l e room_1 s m args below meth c H locs cells slots Q (F0 m 1211 ls []) := by
  obtain ⟨⟨hx, hb, hr, hml, hown, hlocks, hts⟩, ⟨hX, hbl, hL8⟩, ⟨hK, hKX, hZ, hl0⟩, ⟨hA, hA2, ho, hoA, hoR, hAR, hρ⟩⟩ := id hC
  obtain ⟨st, sv, n, N, tx, hi, hLI, hc, hrf, hou, hS⟩ := hD
  have hl : lv_has ls 9 [(0, .ref b), (1, .ref (γ 0)), (2, .ref (ρ 0)), (3, .ref o), (4, .int (I (i : Int)))] := hl
  have hI := hLI.2.1
  have hT := hLI.2.2.1
  have hL := hLI
  refine lv_aload_n hx hb dL_law_1211 rfl (lv_lk hl rfl) ?_
  have hM1 : Met l yX5_ticksUntilForgetting (Cond.code yX5_ticksUntilForgetting cX5_ticksUntilForgetting 1 (some .int) :: ALL) ({ frames := 3, cells := 0, slots := 0, locals := 64 }) (pP [.ref (γ 0)] E (CP E γ α A st sv n N tx)) (qH (some (.int (I (untl st)))) A (CP E γ α A st sv n N tx)) 0 0 A := (cp_S (m_X5_ticksUntilForgetting l E α (γ 0) (γ 1) (γ 2) (n : Int) st 9999 hI hT))
  have hM2 : Met l yX6_ticksUntilForgetting (Cond.code yX6_ticksUntilForgetting cX6_ticksUntilForgetting 1 (some .int) :: ALL) ({ frames := 2, cells := 0, slots := 0, locals := 44 }) (pP [.ref (ρ 0)] E (RPa E ρ st hi n N tx)) (qH (some (.int (I (untl st)))) (adR ρ) (RP E ρ 0 st hi n N tx)) 0 0 (adR ρ) := (rp_W (fun th pa kd nm ke wy => m_X6_ticksUntilForgetting l E ρ th (n : Int) (N : Int) pa kd nm st hi ke tx wy hρ 9999 hI))
  refine call_P (va_runV ⟨hx, hb, hml, hown, hts⟩ hM1 (cwV 0 hts (gi_V ml_L_164 im_X5_ticksUntilForgetting sl_X5_ticksUntilForgetting it_X5 cd_X5_ticksUntilForgetting) rfl rfl rfl (by decide +kernel) ⟨Nat.le_of_ble_eq_true rfl, Nat.le_of_ble_eq_true rfl⟩) (pP_V hK hc (CP_0 _ hc) rfl) rfl rfl hl.1 rfl (lv_room (Nat.le_of_ble_eq_true rfl)) dL_law_1212 ⟨by omega, by omega⟩) hA hS rfl (fun H1 locs k1 k2 hc hS => ?_)
  have hrf := RPa_on _ _ hrf k1 (fun q hq h9 => k2 q hq (fun h7 => hAR q h7 h9))
  have hou := hou.kept (k2 o hou.lt hoA)
  refine lv_aload_n hx hb dL_law_1215 rfl (lv_lk hl rfl) ?_
  refine call_P (va_runV ⟨hx, hb, hml, hown, hts⟩ hM2 (cwV 0 hts (gi_V ml_L_167 im_X6_ticksUntilForgetting sl_X6_ticksUntilForgetting it_X6 cd_X6_ticksUntilForgetting) rfl rfl rfl (by decide +kernel) ⟨Nat.le_of_ble_eq_true rfl, Nat.le_of_ble_eq_true rfl⟩) (pP_V hK hrf (RPa_0 _ hrf) rfl) rfl rfl hl.1 rfl (lv_room (Nat.le_of_ble_eq_true rfl)) dL_law_1216 ⟨by omega, by omega⟩) hA2 hS rfl (fun H2 locs j1 j2 hrf hS => ?_)
  have hc := CP_on _ _ hc j1 (fun q hq h9 => j2 q hq (hAR q h9))
  have hou := hou.kept (j2 o hou.lt hoR)
  refine lv_icmp_eq (tgt := 1775) hx hb dL_law_1219 (by decide) (fun _ => ?_) (fun h9 => absurd rfl h9)
  refine W.widen (k := cells + 1) (n := slots + 6) (by omega) (by omega) ?_
  exact kk _ _ _ ⟨st, sv, n, N, tx, hi, hLI, hc, ⟨_, hrf⟩, hou, hS⟩ hl
set_option maxHeartbeats 400000 in
set_option maxRecDepth 100000 in
theorem case_solved {p : Program} {l : Launch} {e : Jvm.Env} {s : State} {m : MethodId} {args : Array Value} {below : List Frame} {meth : Method} {c : Code} {H : Heap} {locs : List Loc} {cells slots : Nat} {Q : State → Prop} {ls : Array Slot} {b L : Nat} {xs : Nat → Int32} {E : Env3} {γ α ρ : Nat → Nat} {o : Nat} {A : Nat → Prop} (hC : LawC p l s m args meth c b L xs E γ α ρ o A) (i : Nat) (hi4 : i + 4 ≤ L) (hl : lv_has ls 9 (lvL b γ ρ o i)) (hD : Dyn s E γ α ρ o A H locs) (hr1 : cells + 1 ≤ room_1.cells) (hr2 : slots + 6 ≤ room_1.slots)
    (kk : ∀ (H1 : Heap) (locs1 : List Loc) (ls1 : Array Slot), Dyn s E γ α ρ o A H1 locs1 → lv_has ls1 9 (lvL b γ ρ o i) → W p l e room_1 s m args below meth c H1 locs1 (cells + 1) (slots + 6) Q (F0 m 1775 ls1 [])) : W p l e room_1 s m args below meth c H locs cells slots Q (F0 m 1287 ls []) := by
  obtain ⟨⟨hx, hb, hr, hml, hown, hlocks, hts⟩, ⟨hX, hbl, hL8⟩, ⟨hK, hKX, hZ, hl0⟩, ⟨hA, hA2, ho, hoA, hoR, hAR, hρ⟩⟩ := id hC
  obtain ⟨st, sv, n, N, tx, hi, hLI, hc, hrf, hou, hS⟩ := hD
  have hl : lv_has ls 9 [(0, .ref b), (1, .ref (γ 0)), (2, .ref (ρ 0)), (3, .ref o), (4, .int (I (i : Int)))] := hl
  have hI := hLI.2.1
  have hT := hLI.2.2.1
  have hL := hLI
  refine lv_aload_n hx hb dL_law_1287 rfl (lv_lk hl rfl) ?_
  have hM1 : Met l yX5_solved (Cond.code yX5_solved cX5_solved 1 (some .int) :: ALL) ({ frames := 0, cells := 0, slots := 0, locals := 0 }) (pP [.ref (γ 0)] E (CP E γ α A st sv n N tx)) (qH (some (.int (I (st 1)))) A (CP E γ α A st sv n N tx)) 0 0 A := (cp_S (m_X5_solved l E α (γ 0) (γ 1) (γ 2) (n : Int) st))
  have hM2 : Met l yX6_solved (Cond.code yX6_solved cX6_solved 1 (some .int) :: ALL) ({ frames := 1, cells := 0, slots := 0, locals := 21 }) (pP [.ref (ρ 0)] E (RPa E ρ st hi n N tx)) (qH (some (.int (I (st 1)))) (adR ρ) (RP E ρ 0 st hi n N tx)) 0 0 (adR ρ) := (rp_W (fun th pa kd nm ke wy => m_X6_solved l E ρ th (n : Int) (N : Int) pa kd nm st hi ke tx wy hρ))
  refine call_P (va_runV ⟨hx, hb, hml, hown, hts⟩ hM1 (cwV 0 hts (gi_V ml_L_171 im_X5_solved sl_X5_solved it_X5 cd_X5_solved) rfl rfl rfl (by decide +kernel) ⟨Nat.le_of_ble_eq_true rfl, Nat.le_of_ble_eq_true rfl⟩) (pP_V hK hc (CP_0 _ hc) rfl) rfl rfl hl.1 rfl (lv_room (Nat.le_of_ble_eq_true rfl)) dL_law_1288 ⟨by omega, by omega⟩) hA hS rfl (fun H1 locs k1 k2 hc hS => ?_)
  have hrf := RPa_on _ _ hrf k1 (fun q hq h9 => k2 q hq (fun h7 => hAR q h7 h9))
  have hou := hou.kept (k2 o hou.lt hoA)
  refine lv_aload_n hx hb dL_law_1291 rfl (lv_lk hl rfl) ?_
  refine call_P (va_runV ⟨hx, hb, hml, hown, hts⟩ hM2 (cwV 0 hts (gi_V ml_L_174 im_X6_solved sl_X6_solved it_X6 cd_X6_solved) rfl rfl rfl (by decide +kernel) ⟨Nat.le_of_ble_eq_true rfl, Nat.le_of_ble_eq_true rfl⟩) (pP_V hK hrf (RPa_0 _ hrf) rfl) rfl rfl hl.1 rfl (lv_room (Nat.le_of_ble_eq_true rfl)) dL_law_1292 ⟨by omega, by omega⟩) hA2 hS rfl (fun H2 locs j1 j2 hrf hS => ?_)
  have hc := CP_on _ _ hc j1 (fun q hq h9 => j2 q hq (hAR q h9))
  have hou := hou.kept (j2 o hou.lt hoR)
  refine lv_icmp_eq (tgt := 1775) hx hb dL_law_1295 (by decide) (fun _ => ?_) (fun h9 => absurd rfl h9)
  refine W.widen (k := cells + 1) (n := slots + 6) (by omega) (by omega) ?_
  exact kk _ _ _ ⟨st, sv, n, N, tx, hi, hLI, hc, ⟨_, hrf⟩, hou, hS⟩ hl
set_option maxHeartbeats 400000 in
set_option maxRecDepth 100000 in
theorem case_questions {p : Program} {l : Launch} {e : Jvm.Env} {s : State} {m : MethodId} {args : Array Value} {below : List Frame} {meth : Method} {c : Code} {H : Heap} {locs : List Loc} {cells slots : Nat} {Q : State → Prop} {ls : Array Slot} {b L : Nat} {xs : Nat → Int32} {E : Env3} {γ α ρ : Nat → Nat} {o : Nat} {A : Nat → Prop} (hC : LawC p l s m args meth c b L xs E γ α ρ o A) (i : Nat) (hi4 : i + 4 ≤ L) (hl : lv_has ls 9 (lvL b γ ρ o i)) (hD : Dyn s E γ α ρ o A H locs) (hr1 : cells + 1 ≤ room_1.cells) (hr2 : slots + 6 ≤ room_1.slots)
    (kk : ∀ (H1 : Heap) (locs1 : List Loc) (ls1 : Array Slot), Dyn s E γ α ρ o A H1 locs1 → lv_has ls1 9 (lvL b γ ρ o i) → W p l e room_1 s m args below meth c H1 locs1 (cells + 1) (slots + 6) Q (F0 m 1775 ls1 [])) : W p l e room_1 s m args below meth c H locs cells slots Q (F0 m 1300 ls []) := by
  obtain ⟨⟨hx, hb, hr, hml, hown, hlocks, hts⟩, ⟨hX, hbl, hL8⟩, ⟨hK, hKX, hZ, hl0⟩, ⟨hA, hA2, ho, hoA, hoR, hAR, hρ⟩⟩ := id hC
  obtain ⟨st, sv, n, N, tx, hi, hLI, hc, hrf, hou, hS⟩ := hD
  have hl : lv_has ls 9 [(0, .ref b), (1, .ref (γ 0)), (2, .ref (ρ 0)), (3, .ref o), (4, .int (I (i : Int)))] := hl
  have hI := hLI.2.1
  have hT := hLI.2.2.1
  have hL := hLI
  refine lv_aload_n hx hb dL_law_1300 rfl (lv_lk hl rfl) ?_
  have hM1 : Met l yX5_questions (Cond.code yX5_questions cX5_questions 1 (some .int) :: ALL) ({ frames := 0, cells := 0, slots := 0, locals := 0 }) (pP [.ref (γ 0)] E (CP E γ α A st sv n N tx)) (qH (some (.int (I (st 2)))) A (CP E γ α A st sv n N tx)) 0 0 A := (cp_S (m_X5_questions l E α (γ 0) (γ 1) (γ 2) (n : Int) st))
  have hM2 : Met l yX6_questions (Cond.code yX6_questions cX6_questions 1 (some .int) :: ALL) ({ frames := 1, cells := 0, slots := 0, locals := 21 }) (pP [.ref (ρ 0)] E (RPa E ρ st hi n N tx)) (qH (some (.int (I (st 2)))) (adR ρ) (RP E ρ 0 st hi n N tx)) 0 0 (adR ρ) := (rp_W (fun th pa kd nm ke wy => m_X6_questions l E ρ th (n : Int) (N : Int) pa kd nm st hi ke tx wy hρ))
  refine call_P (va_runV ⟨hx, hb, hml, hown, hts⟩ hM1 (cwV 0 hts (gi_V ml_L_175 im_X5_questions sl_X5_questions it_X5 cd_X5_questions) rfl rfl rfl (by decide +kernel) ⟨Nat.le_of_ble_eq_true rfl, Nat.le_of_ble_eq_true rfl⟩) (pP_V hK hc (CP_0 _ hc) rfl) rfl rfl hl.1 rfl (lv_room (Nat.le_of_ble_eq_true rfl)) dL_law_1301 ⟨by omega, by omega⟩) hA hS rfl (fun H1 locs k1 k2 hc hS => ?_)
  have hrf := RPa_on _ _ hrf k1 (fun q hq h9 => k2 q hq (fun h7 => hAR q h7 h9))
  have hou := hou.kept (k2 o hou.lt hoA)
  refine lv_aload_n hx hb dL_law_1304 rfl (lv_lk hl rfl) ?_
  refine call_P (va_runV ⟨hx, hb, hml, hown, hts⟩ hM2 (cwV 0 hts (gi_V ml_L_178 im_X6_questions sl_X6_questions it_X6 cd_X6_questions) rfl rfl rfl (by decide +kernel) ⟨Nat.le_of_ble_eq_true rfl, Nat.le_of_ble_eq_true rfl⟩) (pP_V hK hrf (RPa_0 _ hrf) rfl) rfl rfl hl.1 rfl (lv_room (Nat.le_of_ble_eq_true rfl)) dL_law_1305 ⟨by omega, by omega⟩) hA2 hS rfl (fun H2 locs j1 j2 hrf hS => ?_)
  have hc := CP_on _ _ hc j1 (fun q hq h9 => j2 q hq (hAR q h9))
  have hou := hou.kept (j2 o hou.lt hoR)
  refine lv_icmp_eq (tgt := 1775) hx hb dL_law_1308 (by decide) (fun _ => ?_) (fun h9 => absurd rfl h9)
  refine W.widen (k := cells + 1) (n := slots + 6) (by omega) (by omega) ?_
  exact kk _ _ _ ⟨st, sv, n, N, tx, hi, hLI, hc, ⟨_, hrf⟩, hou, hS⟩ hl
set_option maxHeartbeats 400000 in
set_option maxRecDepth 100000 in
theorem case_hits {p : Program} {l : Launch} {e : Jvm.Env} {s : State} {m : MethodId} {args : Array Value} {below : List Frame} {meth : Method} {c : Code} {H : Heap} {locs : List Loc} {cells slots : Nat} {Q : State → Prop} {ls : Array Slot} {b L : Nat} {xs : Nat → Int32} {E : Env3} {γ α ρ : Nat → Nat} {o : Nat} {A : Nat → Prop} (hC : LawC p l s m args meth c b L xs E γ α ρ o A) (i : Nat) (hi4 : i + 4 ≤ L) (hl : lv_has ls 9 (lvL b γ ρ o i)) (hD : Dyn s E γ α ρ o A H locs) (hr1 : cells + 1 ≤ room_1.cells) (hr2 : slots + 6 ≤ room_1.slots)
    (kk : ∀ (H1 : Heap) (locs1 : List Loc) (ls1 : Array Slot), Dyn s E γ α ρ o A H1 locs1 → lv_has ls1 9 (lvL b γ ρ o i) → W p l e room_1 s m args below meth c H1 locs1 (cells + 1) (slots + 6) Q (F0 m 1775 ls1 [])) : W p l e room_1 s m args below meth c H locs cells slots Q (F0 m 1313 ls []) := by
  obtain ⟨⟨hx, hb, hr, hml, hown, hlocks, hts⟩, ⟨hX, hbl, hL8⟩, ⟨hK, hKX, hZ, hl0⟩, ⟨hA, hA2, ho, hoA, hoR, hAR, hρ⟩⟩ := id hC
  obtain ⟨st, sv, n, N, tx, hi, hLI, hc, hrf, hou, hS⟩ := hD
  have hl : lv_has ls 9 [(0, .ref b), (1, .ref (γ 0)), (2, .ref (ρ 0)), (3, .ref o), (4, .int (I (i : Int)))] := hl
  have hI := hLI.2.1
  have hT := hLI.2.2.1
  have hL := hLI
  refine lv_aload_n hx hb dL_law_1313 rfl (lv_lk hl rfl) ?_
  have hM1 : Met l yX5_hits (Cond.code yX5_hits cX5_hits 1 (some .int) :: ALL) ({ frames := 0, cells := 0, slots := 0, locals := 0 }) (pP [.ref (γ 0)] E (CP E γ α A st sv n N tx)) (qH (some (.int (I (st 3)))) A (CP E γ α A st sv n N tx)) 0 0 A := (cp_S (m_X5_hits l E α (γ 0) (γ 1) (γ 2) (n : Int) st))
  have hM2 : Met l yX6_hits (Cond.code yX6_hits cX6_hits 1 (some .int) :: ALL) ({ frames := 1, cells := 0, slots := 0, locals := 21 }) (pP [.ref (ρ 0)] E (RPa E ρ st hi n N tx)) (qH (some (.int (I (st 3)))) (adR ρ) (RP E ρ 0 st hi n N tx)) 0 0 (adR ρ) := (rp_W (fun th pa kd nm ke wy => m_X6_hits l E ρ th (n : Int) (N : Int) pa kd nm st hi ke tx wy hρ))
  refine call_P (va_runV ⟨hx, hb, hml, hown, hts⟩ hM1 (cwV 0 hts (gi_V ml_L_179 im_X5_hits sl_X5_hits it_X5 cd_X5_hits) rfl rfl rfl (by decide +kernel) ⟨Nat.le_of_ble_eq_true rfl, Nat.le_of_ble_eq_true rfl⟩) (pP_V hK hc (CP_0 _ hc) rfl) rfl rfl hl.1 rfl (lv_room (Nat.le_of_ble_eq_true rfl)) dL_law_1314 ⟨by omega, by omega⟩) hA hS rfl (fun H1 locs k1 k2 hc hS => ?_)
  have hrf := RPa_on _ _ hrf k1 (fun q hq h9 => k2 q hq (fun h7 => hAR q h7 h9))
  have hou := hou.kept (k2 o hou.lt hoA)
  refine lv_aload_n hx hb dL_law_1317 rfl (lv_lk hl rfl) ?_
  refine call_P (va_runV ⟨hx, hb, hml, hown, hts⟩ hM2 (cwV 0 hts (gi_V ml_L_182 im_X6_hits sl_X6_hits it_X6 cd_X6_hits) rfl rfl rfl (by decide +kernel) ⟨Nat.le_of_ble_eq_true rfl, Nat.le_of_ble_eq_true rfl⟩) (pP_V hK hrf (RPa_0 _ hrf) rfl) rfl rfl hl.1 rfl (lv_room (Nat.le_of_ble_eq_true rfl)) dL_law_1318 ⟨by omega, by omega⟩) hA2 hS rfl (fun H2 locs j1 j2 hrf hS => ?_)
  have hc := CP_on _ _ hc j1 (fun q hq h9 => j2 q hq (hAR q h9))
  have hou := hou.kept (j2 o hou.lt hoR)
  refine lv_icmp_eq (tgt := 1775) hx hb dL_law_1321 (by decide) (fun _ => ?_) (fun h9 => absurd rfl h9)
  refine W.widen (k := cells + 1) (n := slots + 6) (by omega) (by omega) ?_
  exact kk _ _ _ ⟨st, sv, n, N, tx, hi, hLI, hc, ⟨_, hrf⟩, hou, hS⟩ hl
set_option maxHeartbeats 400000 in
set_option maxRecDepth 100000 in
theorem case_clearText {p : Program} {l : Launch} {e : Jvm.Env} {s : State} {m : MethodId} {args : Array Value} {below : List Frame} {meth : Method} {c : Code} {H : Heap} {locs : List Loc} {cells slots : Nat} {Q : State → Prop} {ls : Array Slot} {b L : Nat} {xs : Nat → Int32} {E : Env3} {γ α ρ : Nat → Nat} {o : Nat} {A : Nat → Prop} (hC : LawC p l s m args meth c b L xs E γ α ρ o A) (i : Nat) (hi4 : i + 4 ≤ L) (hl : lv_has ls 9 (lvL b γ ρ o i)) (hD : Dyn s E γ α ρ o A H locs) (hr1 : cells + 1 ≤ room_1.cells) (hr2 : slots + 6 ≤ room_1.slots)
    (kk : ∀ (H1 : Heap) (locs1 : List Loc) (ls1 : Array Slot), Dyn s E γ α ρ o A H1 locs1 → lv_has ls1 9 (lvL b γ ρ o i) → W p l e room_1 s m args below meth c H1 locs1 (cells + 1) (slots + 6) Q (F0 m 1775 ls1 [])) : W p l e room_1 s m args below meth c H locs cells slots Q (F0 m 1647 ls []) := by
  obtain ⟨⟨hx, hb, hr, hml, hown, hlocks, hts⟩, ⟨hX, hbl, hL8⟩, ⟨hK, hKX, hZ, hl0⟩, ⟨hA, hA2, ho, hoA, hoR, hAR, hρ⟩⟩ := id hC
  obtain ⟨st, sv, n, N, tx, hi, hLI, hc, hrf, hou, hS⟩ := hD
  have hl : lv_has ls 9 [(0, .ref b), (1, .ref (γ 0)), (2, .ref (ρ 0)), (3, .ref o), (4, .int (I (i : Int)))] := hl
  have hI := hLI.2.1
  have hT := hLI.2.2.1
  have hL := hLI
  refine lv_aload_n hx hb dL_law_1647 rfl (lv_lk hl rfl) ?_
  have hM1 : Met l yX5_clearText (Cond.code yX5_clearText cX5_clearText 2 (some .int) :: ALL) ({ frames := 0, cells := 0, slots := 0, locals := 0 }) (pP [.ref (γ 0)] E (CP E γ α A st sv n N tx)) (qH (some (.int (I (N : Int)))) A (CP E γ α A st sv n 0 tx)) 0 0 A := (cp_W cp_id (fun β ac fs fn hN => m_X5_clearText l E γ α β st sv N ac tx fs fn hN n hL.1))
  have hM2 : Met l yX6_clearText (Cond.code yX6_clearText cX6_clearText 2 (some .int) :: ALL) ({ frames := 0, cells := 0, slots := 0, locals := 0 }) (pP [.ref (ρ 0)] E (RPa E ρ st hi n N tx)) (qH (some (.int (I (N : Int)))) (adR ρ) (RP E ρ 0 st hi n 0 tx)) 0 0 (adR ρ) := (rp_W (fun th pa kd nm ke wy => m_X6_clearText l E ρ th (n : Int) (N : Int) pa kd nm st hi ke tx wy hρ))
  refine call_P (va_runV ⟨hx, hb, hml, hown, hts⟩ hM1 (cwV 0 hts (gi_V ml_L_203 im_X5_clearText sl_X5_clearText it_X5 cd_X5_clearText) rfl rfl rfl (by decide +kernel) ⟨Nat.le_of_ble_eq_true rfl, Nat.le_of_ble_eq_true rfl⟩) (pP_V hK hc (CP_0 _ hc) rfl) rfl rfl hl.1 rfl (lv_room (Nat.le_of_ble_eq_true rfl)) dL_law_1648 ⟨by omega, by omega⟩) hA hS rfl (fun H1 locs k1 k2 hc hS => ?_)
  have hrf := RPa_on _ _ hrf k1 (fun q hq h9 => k2 q hq (fun h7 => hAR q h7 h9))
  have hou := hou.kept (k2 o hou.lt hoA)
  refine lv_aload_n hx hb dL_law_1651 rfl (lv_lk hl rfl) ?_
  refine call_P (va_runV ⟨hx, hb, hml, hown, hts⟩ hM2 (cwV 0 hts (gi_V ml_L_206 im_X6_clearText sl_X6_clearText it_X6 cd_X6_clearText) rfl rfl rfl (by decide +kernel) ⟨Nat.le_of_ble_eq_true rfl, Nat.le_of_ble_eq_true rfl⟩) (pP_V hK hrf (RPa_0 _ hrf) rfl) rfl rfl hl.1 rfl (lv_room (Nat.le_of_ble_eq_true rfl)) dL_law_1652 ⟨by omega, by omega⟩) hA2 hS rfl (fun H2 locs j1 j2 hrf hS => ?_)
  have hc := CP_on _ _ hc j1 (fun q hq h9 => j2 q hq (hAR q h9))
  have hou := hou.kept (j2 o hou.lt hoR)
  refine lv_icmp_eq (tgt := 1775) hx hb dL_law_1655 (by decide) (fun _ => ?_) (fun h9 => absurd rfl h9)
  refine W.widen (k := cells + 1) (n := slots + 6) (by omega) (by omega) ?_
  exact kk _ _ _ ⟨st, sv, n, 0, tx, hi, ⟨hLI.1, hLI.2.1, hLI.2.2.1, txB_0 tx, hLI.2.2.2.2⟩, hc, ⟨_, hrf⟩, hou, hS⟩ hl
set_option maxHeartbeats 400000 in
set_option maxRecDepth 100000 in
theorem case_firstError {p : Program} {l : Launch} {e : Jvm.Env} {s : State} {m : MethodId} {args : Array Value} {below : List Frame} {meth : Method} {c : Code} {H : Heap} {locs : List Loc} {cells slots : Nat} {Q : State → Prop} {ls : Array Slot} {b L : Nat} {xs : Nat → Int32} {E : Env3} {γ α ρ : Nat → Nat} {o : Nat} {A : Nat → Prop} (hC : LawC p l s m args meth c b L xs E γ α ρ o A) (i : Nat) (hi4 : i + 4 ≤ L) (hl : lv_has ls 9 (lvL b γ ρ o i)) (hD : Dyn s E γ α ρ o A H locs) (hr1 : cells + 1 ≤ room_1.cells) (hr2 : slots + 6 ≤ room_1.slots)
    (kk : ∀ (H1 : Heap) (locs1 : List Loc) (ls1 : Array Slot), Dyn s E γ α ρ o A H1 locs1 → lv_has ls1 9 (lvL b γ ρ o i) → W p l e room_1 s m args below meth c H1 locs1 (cells + 1) (slots + 6) Q (F0 m 1775 ls1 [])) : W p l e room_1 s m args below meth c H locs cells slots Q (F0 m 1660 ls []) := by
  obtain ⟨⟨hx, hb, hr, hml, hown, hlocks, hts⟩, ⟨hX, hbl, hL8⟩, ⟨hK, hKX, hZ, hl0⟩, ⟨hA, hA2, ho, hoA, hoR, hAR, hρ⟩⟩ := id hC
  obtain ⟨st, sv, n, N, tx, hi, hLI, hc, hrf, hou, hS⟩ := hD
  have hl : lv_has ls 9 [(0, .ref b), (1, .ref (γ 0)), (2, .ref (ρ 0)), (3, .ref o), (4, .int (I (i : Int)))] := hl
  have hI := hLI.2.1
  have hT := hLI.2.2.1
  have hL := hLI
  refine lv_aload_n hx hb dL_law_1660 rfl (lv_lk hl rfl) ?_
  have hM1 : Met l yX5_firstError (Cond.code yX5_firstError cX5_firstError 1 (some .int) :: ALL) ({ frames := 3, cells := 0, slots := 0, locals := 68 }) (pP [.ref (γ 0)] E (CP E γ α A st sv n N tx)) (qH (some (.int (I (pmF N tx 0 (-1) (-1))))) A (CP E γ α A st sv n N tx)) 0 0 A := (cp_X cp_id (fun β ac fs fn hN => m_X5_firstError l E γ α β st sv N ac tx fs fn hN n hL.1 hL.2.2.2.1))
  have hM2 : Met l yX6_firstError (Cond.code yX6_firstError cX6_firstError 1 (some .int) :: ALL) ({ frames := 5, cells := 0, slots := 0, locals := 107 }) (pP [.ref (ρ 0)] E (RPa E ρ st hi n N tx)) (qH (some (.int (I (pmF N tx 0 (-1) (-1))))) (adR ρ) (RP E ρ 0 st hi n N tx)) 0 0 (adR ρ) := (rp_X (fun th pa kd nm ke wy => m_X6_firstError l E ρ th (n : Int) pa kd nm st hi ke tx wy hρ N hL.2.2.2.1) (fun _ _ _ _ _ _ => ⟨_, _, _, _, _, rfl⟩))
  refine call_P (va_runV ⟨hx, hb, hml, hown, hts⟩ hM1 (cwV 0 hts (gi_V ml_L_207 im_X5_firstError sl_X5_firstError it_X5 cd_X5_firstError) rfl rfl rfl (by decide +kernel) ⟨Nat.le_of_ble_eq_true rfl, Nat.le_of_ble_eq_true rfl⟩) (pP_V hK hc (CP_0 _ hc) rfl) rfl rfl hl.1 rfl (lv_room (Nat.le_of_ble_eq_true rfl)) dL_law_1661 ⟨by omega, by omega⟩) hA hS rfl (fun H1 locs k1 k2 hc hS => ?_)
  have hrf := RPa_on _ _ hrf k1 (fun q hq h9 => k2 q hq (fun h7 => hAR q h7 h9))
  have hou := hou.kept (k2 o hou.lt hoA)
  refine lv_aload_n hx hb dL_law_1664 rfl (lv_lk hl rfl) ?_
  refine call_P (va_runV ⟨hx, hb, hml, hown, hts⟩ hM2 (cwV 0 hts (gi_V ml_L_210 im_X6_firstError sl_X6_firstError it_X6 cd_X6_firstError) rfl rfl rfl (by decide +kernel) ⟨Nat.le_of_ble_eq_true rfl, Nat.le_of_ble_eq_true rfl⟩) (pP_V hK hrf (RPa_0 _ hrf) rfl) rfl rfl hl.1 rfl (lv_room (Nat.le_of_ble_eq_true rfl)) dL_law_1665 ⟨by omega, by omega⟩) hA2 hS rfl (fun H2 locs j1 j2 hrf hS => ?_)
  have hc := CP_on _ _ hc j1 (fun q hq h9 => j2 q hq (hAR q h9))
  have hou := hou.kept (j2 o hou.lt hoR)
  refine lv_icmp_eq (tgt := 1775) hx hb dL_law_1668 (by decide) (fun _ => ?_) (fun h9 => absurd rfl h9)
  refine W.widen (k := cells + 1) (n := slots + 6) (by omega) (by omega) ?_
  exact kk _ _ _ ⟨st, sv, n, N, tx, hi, hLI, hc, ⟨_, hrf⟩, hou, hS⟩ hl
set_option maxHeartbeats 400000 in
set_option maxRecDepth 100000 in
theorem case_digest {p : Program} {l : Launch} {e : Jvm.Env} {s : State} {m : MethodId} {args : Array Value} {below : List Frame} {meth : Method} {c : Code} {H : Heap} {locs : List Loc} {cells slots : Nat} {Q : State → Prop} {ls : Array Slot} {b L : Nat} {xs : Nat → Int32} {E : Env3} {γ α ρ : Nat → Nat} {o : Nat} {A : Nat → Prop} (hC : LawC p l s m args meth c b L xs E γ α ρ o A) (i : Nat) (hi4 : i + 4 ≤ L) (hl : lv_has ls 9 (lvL b γ ρ o i)) (hD : Dyn s E γ α ρ o A H locs) (hr1 : cells + 1 ≤ room_1.cells) (hr2 : slots + 6 ≤ room_1.slots)
    (kk : ∀ (H1 : Heap) (locs1 : List Loc) (ls1 : Array Slot), Dyn s E γ α ρ o A H1 locs1 → lv_has ls1 9 (lvL b γ ρ o i) → W p l e room_1 s m args below meth c H1 locs1 (cells + 1) (slots + 6) Q (F0 m 1775 ls1 [])) : W p l e room_1 s m args below meth c H locs cells slots Q (F0 m 1761 ls []) := by
  obtain ⟨⟨hx, hb, hr, hml, hown, hlocks, hts⟩, ⟨hX, hbl, hL8⟩, ⟨hK, hKX, hZ, hl0⟩, ⟨hA, hA2, ho, hoA, hoR, hAR, hρ⟩⟩ := id hC
  obtain ⟨st, sv, n, N, tx, hi, hLI, hc, hrf, hou, hS⟩ := hD
  have hl : lv_has ls 9 [(0, .ref b), (1, .ref (γ 0)), (2, .ref (ρ 0)), (3, .ref o), (4, .int (I (i : Int)))] := hl
  have hI := hLI.2.1
  have hT := hLI.2.2.1
  have hL := hLI
  refine lv_aload_n hx hb dL_law_1761 rfl (lv_lk hl rfl) ?_
  have hM1 : Met l yX5_digest (Cond.code yX5_digest cX5_digest 4 (some .long) :: ALL) ({ frames := 9, cells := 0, slots := 0, locals := 148 }) (pP [.ref (γ 0)] E (CP E γ α A st sv n N tx)) (qH (some (.long (dig st))) A (CP E γ α A st sv n N tx)) 0 0 A := (cp_S (m_X5_digest l E α (γ 0) (γ 1) (γ 2) (n : Int) st 9999 hI hT))
  have hM2 : Met l yX6_digest (Cond.code yX6_digest cX6_digest 4 (some .long) :: ALL) ({ frames := 6, cells := 0, slots := 0, locals := 136 }) (pP [.ref (ρ 0)] E (RPa E ρ st hi n N tx)) (qH (some (.long (dig st))) (adR ρ) (RP E ρ 0 st hi n N tx)) 0 0 (adR ρ) := (rp_X (fun th pa kd nm ke wy => m_X6_digest l E ρ th (n : Int) (N : Int) pa kd nm st hi ke tx wy hρ 9999 hI) (fun _ _ _ _ _ _ => ⟨_, _, _, _, _, rfl⟩))
  refine call_P (va_runV ⟨hx, hb, hml, hown, hts⟩ hM1 (cwV 0 hts (gi_V ml_L_218 im_X5_digest sl_X5_digest it_X5 cd_X5_digest) rfl rfl rfl (by decide +kernel) ⟨Nat.le_of_ble_eq_true rfl, Nat.le_of_ble_eq_true rfl⟩) (pP_V hK hc (CP_0 _ hc) rfl) rfl rfl hl.1 rfl (lv_room (Nat.le_of_ble_eq_true rfl)) dL_law_1762 ⟨by omega, by omega⟩) hA hS rfl (fun H1 locs k1 k2 hc hS => ?_)
  have hrf := RPa_on _ _ hrf k1 (fun q hq h9 => k2 q hq (fun h7 => hAR q h7 h9))
  have hou := hou.kept (k2 o hou.lt hoA)
  refine lv_aload_n hx hb dL_law_1765 rfl (lv_lk hl rfl) ?_
  refine call_P (va_runV ⟨hx, hb, hml, hown, hts⟩ hM2 (cwV 0 hts (gi_V ml_L_222 im_X6_digest sl_X6_digest it_X6 cd_X6_digest) rfl rfl rfl (by decide +kernel) ⟨Nat.le_of_ble_eq_true rfl, Nat.le_of_ble_eq_true rfl⟩) (pP_V hK hrf (RPa_0 _ hrf) rfl) rfl rfl hl.1 rfl (lv_room (Nat.le_of_ble_eq_true rfl)) dL_law_1766 ⟨by omega, by omega⟩) hA2 hS rfl (fun H2 locs j1 j2 hrf hS => ?_)
  have hc := CP_on _ _ hc j1 (fun q hq h9 => j2 q hq (hAR q h9))
  have hou := hou.kept (j2 o hou.lt hoR)
  refine W.lcmp hx hb dL_law_1769 ?_
  rw [lg_cmp_self]
  refine iv_if_eq (tgt := 1775) hx hb dL_law_1770 (by decide) (by omega) (fun _ => ?_) (fun h9 => absurd rfl h9)
  refine W.widen (k := cells + 1) (n := slots + 6) (by omega) (by omega) ?_
  exact kk _ _ _ ⟨st, sv, n, N, tx, hi, hLI, hc, ⟨_, hrf⟩, hou, hS⟩ hl
