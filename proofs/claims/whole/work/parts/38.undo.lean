/-! the class: undo; written by mkundo.py -/
abbrev unW (E : Env3) (α β : Nat → Nat) (a b t9 : Nat) (f9 : Nat → Option Nat) (n : Int) (st sx : S) : va_W := [(a, .inr (5, [.ref (α 0), .ref b, .int (I n), .ref t9])), (b, rA E 6 f9)] ++ (stW E α st ++ stW E β sx)
set_option maxHeartbeats 4000000 in
set_option maxRecDepth 100000 in
theorem m_X5_undo_1 (l : Launch) (E : Env3) (α β : Nat → Nat) (a b t9 : Nat) (f9 : Nat → Option Nat) (st sx : S) (k : Nat) (hk : k < 6) (hf : f9 k = some (β 0)) (hd : va_D (fun _ => True) (unW E α β a b t9 f9 (((k + 1 : Nat) : Int)) st sx)) : Met l yX5_undo (Cond.code yX5_undo cX5_undo 2 (some .int) :: ALL) ({ frames := 6, cells := 0, slots := 0, locals := 127 }) (pR [.ref a] E (unW E α β a b t9 f9 (((k + 1 : Nat) : Int)) st sx)) (qW (some (.int (I (k : Int)))) E (unW E α β a b t9 f9 (((k + 1 : Nat) : Int)) st sx) (unW E α β a b t9 f9 ((k : Int)) sx sx)) 0 0 (adIn (unW E α β a b t9 f9 (((k + 1 : Nat) : Int)) st sx)) := by
  refine mk_met (by decide) rfl (Nat.le_of_ble_eq_true rfl) ?_
  intro p e s m args below meth c hx hb hrt hml hts hown hlocks hnm hP hK ls hl
  have hown : s.vm.findClass RX5 = some m.cls := hown
  have hl : lv_has ls 2 [(0, .ref a)] := hl
  have hD : va_D (adIn (unW E α β a b t9 f9 (((k + 1 : Nat) : Int)) st sx)) (unW E α β a b t9 f9 (((k + 1 : Nat) : Int)) st sx) := dself hd
  have hS : va_S (adIn (unW E α β a b t9 f9 (((k + 1 : Nat) : Int)) st sx)) s.heap s.heap [] := va_S.rf
  refine lv_aload_n hx hb dX5_undo_0 rfl (lv_lk hl rfl) ?_
  refine lv_aload_n hx hb dX5_undo_1 rfl (lv_lk hl rfl) ?_
  refine va_get (D := E.1) (ci := 5) hx hb hts inX5 hown hK.1 hP 0 rfl rfl 2 (by decide) (hts _ fl_X5_20) (fun _ h9 => h9) rfl dX5_undo_2 ?_
  refine iv_iconst hx hb dX5_undo_5 ?_
  refine iv_isub hx hb dX5_undo_6 ?_
  refine iv_eq ((k : Int)) (by omega) ?_
  refine call_S (va_runV ⟨hx, hb, hml, hown, hts⟩ (m_X5_savedAt l E a b (α 0) t9 ((k + 1 : Nat) : Int) f9 k hk (β 0) hf) (cwV 1 hts (gi_V ml_X5_204 im_X5_savedAt sl_X5_savedAt it_X5 cd_X5_savedAt) rfl rfl rfl (by decide +kernel) ⟨Nat.le_of_ble_eq_true rfl, Nat.le_of_ble_eq_true rfl⟩) (pR_V (q0 := 0) (ci := 5) (hP.sub (ws' := [(a, .inr (5, [.ref (α 0), .ref b, .int (I ((k + 1 : Nat) : Int)), .ref t9])), (b, rA E 6 f9)]) [0, 1] rfl) hK rfl rfl) rfl rfl hl.1 rfl (lv_room (Nat.le_of_ble_eq_true rfl)) dX5_undo_7 ⟨Nat.le_of_ble_eq_true rfl, Nat.le_of_ble_eq_true rfl⟩) (fun _ h => h) hS rfl (fun locs hS => ?_)
  refine lv_astore_n (lv' := [(1, .ref _), (0, .ref _)]) hx hb dX5_undo_10 rfl hl (by decide) rfl (fun ls hl => ?_)
  refine lv_aload_n hx hb dX5_undo_11 rfl (lv_lk hl rfl) ?_
  refine lv_ifnonnull (tgt := 25) hx hb dX5_undo_12 (by decide) ?_
  refine lv_aload_n hx hb dX5_undo_25 rfl (lv_lk hl rfl) ?_
  refine va_get (D := E.1) (ci := 5) hx hb hts inX5 hown hK.1 hP 0 rfl rfl 0 (by decide) (hts _ fl_X5_10) (fun _ h9 => h9) rfl dX5_undo_26 ?_
  refine lv_aload_n hx hb dX5_undo_29 rfl (lv_lk hl rfl) ?_
  refine call_A (X := [(a, .inr (5, [.ref (α 0), .ref b, .int (I ((k + 1 : Nat) : Int)), .ref t9])), (b, rA E 6 f9)]) (Y := (stW E α st ++ stW E β sx)) (Y1 := (stW E α sx ++ stW E β sx)) (va_runV ⟨hx, hb, hml, hown, hts⟩ (m_X3_copyFrom l E α β st sx (((dm (ws' := (unW E α β a b t9 f9 (((k + 1 : Nat) : Int)) st sx)) hD rfl).sub (ws' := stW E α st ++ stW E β sx) [2, 3, 4, 5, 6, 7, 8, 9, 10, 11, 12, 13, 14, 15, 16, 17, 18, 19, 20, 21, 22, 23, 24, 25, 26, 27, 28, 29, 30, 31, 32, 33] (by decide) rfl).weaken (fun _ _ _ _ => trivial))) (cwV 1 hts (gi_V ml_X5_210 im_X3_copyFrom sl_X3_copyFrom it_X3 cd_X3_copyFrom) rfl rfl rfl (by decide +kernel) ⟨Nat.le_of_ble_eq_true rfl, Nat.le_of_ble_eq_true rfl⟩) (pR_V (q0 := 0) (ci := 3) (hP.sub (ws' := (stW E α st ++ stW E β sx)) [2, 3, 4, 5, 6, 7, 8, 9, 10, 11, 12, 13, 14, 15, 16, 17, 18, 19, 20, 21, 22, 23, 24, 25, 26, 27, 28, 29, 30, 31, 32, 33] rfl) hK rfl rfl) rfl rfl hl.1 rfl (lv_room (Nat.le_of_ble_eq_true rfl)) dX5_undo_30 ⟨Nat.le_of_ble_eq_true rfl, Nat.le_of_ble_eq_true rfl⟩) hP (dm hD rfl) hS rfl (fun H locs hP hS => ?_)
  have hP : va_P E.1 vwCl (unW E α β a b t9 f9 (((k + 1 : Nat) : Int)) sx sx) H := hP
  refine lv_aload_n hx hb dX5_undo_33 rfl (lv_lk hl rfl) ?_
  refine lv_dup hx hb dX5_undo_34 rfl ?_
  refine va_get (D := E.1) (ci := 5) hx hb hts inX5 hown hK.1 hP 0 rfl rfl 2 (by decide) (hts _ fl_X5_20) (fun _ h9 => h9) rfl dX5_undo_35 ?_
  refine iv_iconst hx hb dX5_undo_38 ?_
  refine iv_isub hx hb dX5_undo_39 ?_
  refine iv_eq ((k : Int)) (by omega) ?_
  refine va_put (ci := 5) (ty := .int) hx hb hts inX5 tyX5 tyX5_ok nmX5 hown hK.1 hP (dm hD rfl) hS 0 rfl rfl 2 (by decide) (hts _ fl_X5_20) (fun _ h9 => h9) rfl (by decide +kernel) rfl rfl (Nat.le_of_ble_eq_true rfl) dX5_undo_40 (fun H locs hP _ hS => ?_)
  have hP : va_P E.1 vwCl (unW E α β a b t9 f9 ((k : Int)) sx sx) H := hP
  refine lv_aload_n hx hb dX5_undo_43 rfl (lv_lk hl rfl) ?_
  refine va_get (D := E.1) (ci := 5) hx hb hts inX5 hown hK.1 hP 0 rfl rfl 2 (by decide) (hts _ fl_X5_20) (fun _ h9 => h9) rfl dX5_undo_44 ?_
  exact W.iret hx hb hrt (fun t ht hW => ⟨rfl, by rw [ht]; exact hP, hS.F ht⟩) hS.2.2 dX5_undo_47 hlocks
theorem pmu_0 {β9 : Type} {O T N S0 S1 S2 S3 S4 S5 : List β9} : ((T ++ (S1 ++ (S2 ++ (S3 ++ (S4 ++ S5))))) ++ (O ++ (N ++ S0))).Perm ((O ++ T) ++ (N ++ (S0 ++ (S1 ++ (S2 ++ (S3 ++ (S4 ++ S5))))))) := by
  classical exact List.perm_iff_count.mpr (fun q => by simp only [List.count_append]; omega)
set_option maxHeartbeats 4000000 in
set_option maxRecDepth 100000 in
theorem undo_0 (l : Launch) (E : Env3) (γ α : Nat → Nat) (β : Nat → Nat → Nat) (st : S) (sv : Nat → S) (N ac : Int) (tx fs fn : S) (hN : ndP γ α β) : Met l yX5_undo (Cond.code yX5_undo cX5_undo 2 (some .int) :: ALL) ({ frames := 6, cells := 0, slots := 0, locals := 127 }) (pR [.ref (γ 0)] E (pW E γ α β st sv ((0 + 1 : Nat) : Int) N ac tx fs fn)) (qW (some (.int (I ((0 : Nat) : Int)))) E (pW E γ α β st sv ((0 + 1 : Nat) : Int) N ac tx fs fn) (pW E γ α β (sv 0) sv ((0 : Nat) : Int) N ac tx fs fn)) 0 0 (adIn (pW E γ α β st sv ((0 + 1 : Nat) : Int) N ac tx fs fn)) := by
  have q0 : ((tB E γ N ac tx fs fn ++ (stW E (β 1) (sv 1) ++ (stW E (β 2) (sv 2) ++ (stW E (β 3) (sv 3) ++ (stW E (β 4) (sv 4) ++ stW E (β 5) (sv 5)))))) ++ unW E α (β 0) (γ 0) (γ 1) (γ 2) (fun j => [β 0 0, β 1 0, β 2 0, β 3 0, β 4 0, β 5 0][j]?) ((0 + 1 : Nat) : Int) st (sv 0)).Perm (pW E γ α β st sv ((0 + 1 : Nat) : Int) N ac tx fs fn) := pmu_0
  have q1 : ((tB E γ N ac tx fs fn ++ (stW E (β 1) (sv 1) ++ (stW E (β 2) (sv 2) ++ (stW E (β 3) (sv 3) ++ (stW E (β 4) (sv 4) ++ stW E (β 5) (sv 5)))))) ++ unW E α (β 0) (γ 0) (γ 1) (γ 2) (fun j => [β 0 0, β 1 0, β 2 0, β 3 0, β 4 0, β 5 0][j]?) ((0 : Nat) : Int) (sv 0) (sv 0)).Perm (pW E γ α β (sv 0) sv ((0 : Nat) : Int) N ac tx fs fn) := pmu_0
  have hd : (((tB E γ N ac tx fs fn ++ (stW E (β 1) (sv 1) ++ (stW E (β 2) (sv 2) ++ (stW E (β 3) (sv 3) ++ (stW E (β 4) (sv 4) ++ stW E (β 5) (sv 5)))))) ++ unW E α (β 0) (γ 0) (γ 1) (γ 2) (fun j => [β 0 0, β 1 0, β 2 0, β 3 0, β 4 0, β 5 0][j]?) ((0 + 1 : Nat) : Int) st (sv 0)).map (·.1)).Nodup := (q0.map (·.1)).nodup_iff.mpr (adP_eq hN)
  exact met_perm (met_ap (m_X5_undo_1 l E α (β 0) (γ 0) (γ 1) (γ 2) (fun j => [β 0 0, β 1 0, β 2 0, β 3 0, β 4 0, β 5 0][j]?) st (sv 0) 0 (by decide) rfl (D_nd (nd_r hd))) (D_nd hd)) q0 q1
theorem pmu_1 {β9 : Type} {O T N S0 S1 S2 S3 S4 S5 : List β9} : ((T ++ (S0 ++ (S2 ++ (S3 ++ (S4 ++ S5))))) ++ (O ++ (N ++ S1))).Perm ((O ++ T) ++ (N ++ (S0 ++ (S1 ++ (S2 ++ (S3 ++ (S4 ++ S5))))))) := by
  classical exact List.perm_iff_count.mpr (fun q => by simp only [List.count_append]; omega)
set_option maxHeartbeats 4000000 in
set_option maxRecDepth 100000 in
theorem undo_1 (l : Launch) (E : Env3) (γ α : Nat → Nat) (β : Nat → Nat → Nat) (st : S) (sv : Nat → S) (N ac : Int) (tx fs fn : S) (hN : ndP γ α β) : Met l yX5_undo (Cond.code yX5_undo cX5_undo 2 (some .int) :: ALL) ({ frames := 6, cells := 0, slots := 0, locals := 127 }) (pR [.ref (γ 0)] E (pW E γ α β st sv ((1 + 1 : Nat) : Int) N ac tx fs fn)) (qW (some (.int (I ((1 : Nat) : Int)))) E (pW E γ α β st sv ((1 + 1 : Nat) : Int) N ac tx fs fn) (pW E γ α β (sv 1) sv ((1 : Nat) : Int) N ac tx fs fn)) 0 0 (adIn (pW E γ α β st sv ((1 + 1 : Nat) : Int) N ac tx fs fn)) := by
  have q0 : ((tB E γ N ac tx fs fn ++ (stW E (β 0) (sv 0) ++ (stW E (β 2) (sv 2) ++ (stW E (β 3) (sv 3) ++ (stW E (β 4) (sv 4) ++ stW E (β 5) (sv 5)))))) ++ unW E α (β 1) (γ 0) (γ 1) (γ 2) (fun j => [β 0 0, β 1 0, β 2 0, β 3 0, β 4 0, β 5 0][j]?) ((1 + 1 : Nat) : Int) st (sv 1)).Perm (pW E γ α β st sv ((1 + 1 : Nat) : Int) N ac tx fs fn) := pmu_1
  have q1 : ((tB E γ N ac tx fs fn ++ (stW E (β 0) (sv 0) ++ (stW E (β 2) (sv 2) ++ (stW E (β 3) (sv 3) ++ (stW E (β 4) (sv 4) ++ stW E (β 5) (sv 5)))))) ++ unW E α (β 1) (γ 0) (γ 1) (γ 2) (fun j => [β 0 0, β 1 0, β 2 0, β 3 0, β 4 0, β 5 0][j]?) ((1 : Nat) : Int) (sv 1) (sv 1)).Perm (pW E γ α β (sv 1) sv ((1 : Nat) : Int) N ac tx fs fn) := pmu_1
  have hd : (((tB E γ N ac tx fs fn ++ (stW E (β 0) (sv 0) ++ (stW E (β 2) (sv 2) ++ (stW E (β 3) (sv 3) ++ (stW E (β 4) (sv 4) ++ stW E (β 5) (sv 5)))))) ++ unW E α (β 1) (γ 0) (γ 1) (γ 2) (fun j => [β 0 0, β 1 0, β 2 0, β 3 0, β 4 0, β 5 0][j]?) ((1 + 1 : Nat) : Int) st (sv 1)).map (·.1)).Nodup := (q0.map (·.1)).nodup_iff.mpr (adP_eq hN)
  exact met_perm (met_ap (m_X5_undo_1 l E α (β 1) (γ 0) (γ 1) (γ 2) (fun j => [β 0 0, β 1 0, β 2 0, β 3 0, β 4 0, β 5 0][j]?) st (sv 1) 1 (by decide) rfl (D_nd (nd_r hd))) (D_nd hd)) q0 q1
theorem pmu_2 {β9 : Type} {O T N S0 S1 S2 S3 S4 S5 : List β9} : ((T ++ (S0 ++ (S1 ++ (S3 ++ (S4 ++ S5))))) ++ (O ++ (N ++ S2))).Perm ((O ++ T) ++ (N ++ (S0 ++ (S1 ++ (S2 ++ (S3 ++ (S4 ++ S5))))))) := by
  classical exact List.perm_iff_count.mpr (fun q => by simp only [List.count_append]; omega)
set_option maxHeartbeats 4000000 in
set_option maxRecDepth 100000 in
theorem undo_2 (l : Launch) (E : Env3) (γ α : Nat → Nat) (β : Nat → Nat → Nat) (st : S) (sv : Nat → S) (N ac : Int) (tx fs fn : S) (hN : ndP γ α β) : Met l yX5_undo (Cond.code yX5_undo cX5_undo 2 (some .int) :: ALL) ({ frames := 6, cells := 0, slots := 0, locals := 127 }) (pR [.ref (γ 0)] E (pW E γ α β st sv ((2 + 1 : Nat) : Int) N ac tx fs fn)) (qW (some (.int (I ((2 : Nat) : Int)))) E (pW E γ α β st sv ((2 + 1 : Nat) : Int) N ac tx fs fn) (pW E γ α β (sv 2) sv ((2 : Nat) : Int) N ac tx fs fn)) 0 0 (adIn (pW E γ α β st sv ((2 + 1 : Nat) : Int) N ac tx fs fn)) := by
  have q0 : ((tB E γ N ac tx fs fn ++ (stW E (β 0) (sv 0) ++ (stW E (β 1) (sv 1) ++ (stW E (β 3) (sv 3) ++ (stW E (β 4) (sv 4) ++ stW E (β 5) (sv 5)))))) ++ unW E α (β 2) (γ 0) (γ 1) (γ 2) (fun j => [β 0 0, β 1 0, β 2 0, β 3 0, β 4 0, β 5 0][j]?) ((2 + 1 : Nat) : Int) st (sv 2)).Perm (pW E γ α β st sv ((2 + 1 : Nat) : Int) N ac tx fs fn) := pmu_2
  have q1 : ((tB E γ N ac tx fs fn ++ (stW E (β 0) (sv 0) ++ (stW E (β 1) (sv 1) ++ (stW E (β 3) (sv 3) ++ (stW E (β 4) (sv 4) ++ stW E (β 5) (sv 5)))))) ++ unW E α (β 2) (γ 0) (γ 1) (γ 2) (fun j => [β 0 0, β 1 0, β 2 0, β 3 0, β 4 0, β 5 0][j]?) ((2 : Nat) : Int) (sv 2) (sv 2)).Perm (pW E γ α β (sv 2) sv ((2 : Nat) : Int) N ac tx fs fn) := pmu_2
  have hd : (((tB E γ N ac tx fs fn ++ (stW E (β 0) (sv 0) ++ (stW E (β 1) (sv 1) ++ (stW E (β 3) (sv 3) ++ (stW E (β 4) (sv 4) ++ stW E (β 5) (sv 5)))))) ++ unW E α (β 2) (γ 0) (γ 1) (γ 2) (fun j => [β 0 0, β 1 0, β 2 0, β 3 0, β 4 0, β 5 0][j]?) ((2 + 1 : Nat) : Int) st (sv 2)).map (·.1)).Nodup := (q0.map (·.1)).nodup_iff.mpr (adP_eq hN)
  exact met_perm (met_ap (m_X5_undo_1 l E α (β 2) (γ 0) (γ 1) (γ 2) (fun j => [β 0 0, β 1 0, β 2 0, β 3 0, β 4 0, β 5 0][j]?) st (sv 2) 2 (by decide) rfl (D_nd (nd_r hd))) (D_nd hd)) q0 q1
theorem pmu_3 {β9 : Type} {O T N S0 S1 S2 S3 S4 S5 : List β9} : ((T ++ (S0 ++ (S1 ++ (S2 ++ (S4 ++ S5))))) ++ (O ++ (N ++ S3))).Perm ((O ++ T) ++ (N ++ (S0 ++ (S1 ++ (S2 ++ (S3 ++ (S4 ++ S5))))))) := by
  classical exact List.perm_iff_count.mpr (fun q => by simp only [List.count_append]; omega)
set_option maxHeartbeats 4000000 in
set_option maxRecDepth 100000 in
theorem undo_3 (l : Launch) (E : Env3) (γ α : Nat → Nat) (β : Nat → Nat → Nat) (st : S) (sv : Nat → S) (N ac : Int) (tx fs fn : S) (hN : ndP γ α β) : Met l yX5_undo (Cond.code yX5_undo cX5_undo 2 (some .int) :: ALL) ({ frames := 6, cells := 0, slots := 0, locals := 127 }) (pR [.ref (γ 0)] E (pW E γ α β st sv ((3 + 1 : Nat) : Int) N ac tx fs fn)) (qW (some (.int (I ((3 : Nat) : Int)))) E (pW E γ α β st sv ((3 + 1 : Nat) : Int) N ac tx fs fn) (pW E γ α β (sv 3) sv ((3 : Nat) : Int) N ac tx fs fn)) 0 0 (adIn (pW E γ α β st sv ((3 + 1 : Nat) : Int) N ac tx fs fn)) := by
  have q0 : ((tB E γ N ac tx fs fn ++ (stW E (β 0) (sv 0) ++ (stW E (β 1) (sv 1) ++ (stW E (β 2) (sv 2) ++ (stW E (β 4) (sv 4) ++ stW E (β 5) (sv 5)))))) ++ unW E α (β 3) (γ 0) (γ 1) (γ 2) (fun j => [β 0 0, β 1 0, β 2 0, β 3 0, β 4 0, β 5 0][j]?) ((3 + 1 : Nat) : Int) st (sv 3)).Perm (pW E γ α β st sv ((3 + 1 : Nat) : Int) N ac tx fs fn) := pmu_3
  have q1 : ((tB E γ N ac tx fs fn ++ (stW E (β 0) (sv 0) ++ (stW E (β 1) (sv 1) ++ (stW E (β 2) (sv 2) ++ (stW E (β 4) (sv 4) ++ stW E (β 5) (sv 5)))))) ++ unW E α (β 3) (γ 0) (γ 1) (γ 2) (fun j => [β 0 0, β 1 0, β 2 0, β 3 0, β 4 0, β 5 0][j]?) ((3 : Nat) : Int) (sv 3) (sv 3)).Perm (pW E γ α β (sv 3) sv ((3 : Nat) : Int) N ac tx fs fn) := pmu_3
  have hd : (((tB E γ N ac tx fs fn ++ (stW E (β 0) (sv 0) ++ (stW E (β 1) (sv 1) ++ (stW E (β 2) (sv 2) ++ (stW E (β 4) (sv 4) ++ stW E (β 5) (sv 5)))))) ++ unW E α (β 3) (γ 0) (γ 1) (γ 2) (fun j => [β 0 0, β 1 0, β 2 0, β 3 0, β 4 0, β 5 0][j]?) ((3 + 1 : Nat) : Int) st (sv 3)).map (·.1)).Nodup := (q0.map (·.1)).nodup_iff.mpr (adP_eq hN)
  exact met_perm (met_ap (m_X5_undo_1 l E α (β 3) (γ 0) (γ 1) (γ 2) (fun j => [β 0 0, β 1 0, β 2 0, β 3 0, β 4 0, β 5 0][j]?) st (sv 3) 3 (by decide) rfl (D_nd (nd_r hd))) (D_nd hd)) q0 q1
theorem pmu_4 {β9 : Type} {O T N S0 S1 S2 S3 S4 S5 : List β9} : ((T ++ (S0 ++ (S1 ++ (S2 ++ (S3 ++ S5))))) ++ (O ++ (N ++ S4))).Perm ((O ++ T) ++ (N ++ (S0 ++ (S1 ++ (S2 ++ (S3 ++ (S4 ++ S5))))))) := by
  classical exact List.perm_iff_count.mpr (fun q => by simp only [List.count_append]; omega)
set_option maxHeartbeats 4000000 in
set_option maxRecDepth 100000 in
theorem undo_4 (l : Launch) (E : Env3) (γ α : Nat → Nat) (β : Nat → Nat → Nat) (st : S) (sv : Nat → S) (N ac : Int) (tx fs fn : S) (hN : ndP γ α β) : Met l yX5_undo (Cond.code yX5_undo cX5_undo 2 (some .int) :: ALL) ({ frames := 6, cells := 0, slots := 0, locals := 127 }) (pR [.ref (γ 0)] E (pW E γ α β st sv ((4 + 1 : Nat) : Int) N ac tx fs fn)) (qW (some (.int (I ((4 : Nat) : Int)))) E (pW E γ α β st sv ((4 + 1 : Nat) : Int) N ac tx fs fn) (pW E γ α β (sv 4) sv ((4 : Nat) : Int) N ac tx fs fn)) 0 0 (adIn (pW E γ α β st sv ((4 + 1 : Nat) : Int) N ac tx fs fn)) := by
  have q0 : ((tB E γ N ac tx fs fn ++ (stW E (β 0) (sv 0) ++ (stW E (β 1) (sv 1) ++ (stW E (β 2) (sv 2) ++ (stW E (β 3) (sv 3) ++ stW E (β 5) (sv 5)))))) ++ unW E α (β 4) (γ 0) (γ 1) (γ 2) (fun j => [β 0 0, β 1 0, β 2 0, β 3 0, β 4 0, β 5 0][j]?) ((4 + 1 : Nat) : Int) st (sv 4)).Perm (pW E γ α β st sv ((4 + 1 : Nat) : Int) N ac tx fs fn) := pmu_4
  have q1 : ((tB E γ N ac tx fs fn ++ (stW E (β 0) (sv 0) ++ (stW E (β 1) (sv 1) ++ (stW E (β 2) (sv 2) ++ (stW E (β 3) (sv 3) ++ stW E (β 5) (sv 5)))))) ++ unW E α (β 4) (γ 0) (γ 1) (γ 2) (fun j => [β 0 0, β 1 0, β 2 0, β 3 0, β 4 0, β 5 0][j]?) ((4 : Nat) : Int) (sv 4) (sv 4)).Perm (pW E γ α β (sv 4) sv ((4 : Nat) : Int) N ac tx fs fn) := pmu_4
  have hd : (((tB E γ N ac tx fs fn ++ (stW E (β 0) (sv 0) ++ (stW E (β 1) (sv 1) ++ (stW E (β 2) (sv 2) ++ (stW E (β 3) (sv 3) ++ stW E (β 5) (sv 5)))))) ++ unW E α (β 4) (γ 0) (γ 1) (γ 2) (fun j => [β 0 0, β 1 0, β 2 0, β 3 0, β 4 0, β 5 0][j]?) ((4 + 1 : Nat) : Int) st (sv 4)).map (·.1)).Nodup := (q0.map (·.1)).nodup_iff.mpr (adP_eq hN)
  exact met_perm (met_ap (m_X5_undo_1 l E α (β 4) (γ 0) (γ 1) (γ 2) (fun j => [β 0 0, β 1 0, β 2 0, β 3 0, β 4 0, β 5 0][j]?) st (sv 4) 4 (by decide) rfl (D_nd (nd_r hd))) (D_nd hd)) q0 q1
theorem pmu_5 {β9 : Type} {O T N S0 S1 S2 S3 S4 S5 : List β9} : ((T ++ (S0 ++ (S1 ++ (S2 ++ (S3 ++ S4))))) ++ (O ++ (N ++ S5))).Perm ((O ++ T) ++ (N ++ (S0 ++ (S1 ++ (S2 ++ (S3 ++ (S4 ++ S5))))))) := by
  classical exact List.perm_iff_count.mpr (fun q => by simp only [List.count_append]; omega)
set_option maxHeartbeats 4000000 in
set_option maxRecDepth 100000 in
theorem undo_5 (l : Launch) (E : Env3) (γ α : Nat → Nat) (β : Nat → Nat → Nat) (st : S) (sv : Nat → S) (N ac : Int) (tx fs fn : S) (hN : ndP γ α β) : Met l yX5_undo (Cond.code yX5_undo cX5_undo 2 (some .int) :: ALL) ({ frames := 6, cells := 0, slots := 0, locals := 127 }) (pR [.ref (γ 0)] E (pW E γ α β st sv ((5 + 1 : Nat) : Int) N ac tx fs fn)) (qW (some (.int (I ((5 : Nat) : Int)))) E (pW E γ α β st sv ((5 + 1 : Nat) : Int) N ac tx fs fn) (pW E γ α β (sv 5) sv ((5 : Nat) : Int) N ac tx fs fn)) 0 0 (adIn (pW E γ α β st sv ((5 + 1 : Nat) : Int) N ac tx fs fn)) := by
  have q0 : ((tB E γ N ac tx fs fn ++ (stW E (β 0) (sv 0) ++ (stW E (β 1) (sv 1) ++ (stW E (β 2) (sv 2) ++ (stW E (β 3) (sv 3) ++ stW E (β 4) (sv 4)))))) ++ unW E α (β 5) (γ 0) (γ 1) (γ 2) (fun j => [β 0 0, β 1 0, β 2 0, β 3 0, β 4 0, β 5 0][j]?) ((5 + 1 : Nat) : Int) st (sv 5)).Perm (pW E γ α β st sv ((5 + 1 : Nat) : Int) N ac tx fs fn) := pmu_5
  have q1 : ((tB E γ N ac tx fs fn ++ (stW E (β 0) (sv 0) ++ (stW E (β 1) (sv 1) ++ (stW E (β 2) (sv 2) ++ (stW E (β 3) (sv 3) ++ stW E (β 4) (sv 4)))))) ++ unW E α (β 5) (γ 0) (γ 1) (γ 2) (fun j => [β 0 0, β 1 0, β 2 0, β 3 0, β 4 0, β 5 0][j]?) ((5 : Nat) : Int) (sv 5) (sv 5)).Perm (pW E γ α β (sv 5) sv ((5 : Nat) : Int) N ac tx fs fn) := pmu_5
  have hd : (((tB E γ N ac tx fs fn ++ (stW E (β 0) (sv 0) ++ (stW E (β 1) (sv 1) ++ (stW E (β 2) (sv 2) ++ (stW E (β 3) (sv 3) ++ stW E (β 4) (sv 4)))))) ++ unW E α (β 5) (γ 0) (γ 1) (γ 2) (fun j => [β 0 0, β 1 0, β 2 0, β 3 0, β 4 0, β 5 0][j]?) ((5 + 1 : Nat) : Int) st (sv 5)).map (·.1)).Nodup := (q0.map (·.1)).nodup_iff.mpr (adP_eq hN)
  exact met_perm (met_ap (m_X5_undo_1 l E α (β 5) (γ 0) (γ 1) (γ 2) (fun j => [β 0 0, β 1 0, β 2 0, β 3 0, β 4 0, β 5 0][j]?) st (sv 5) 5 (by decide) rfl (D_nd (nd_r hd))) (D_nd hd)) q0 q1
set_option maxHeartbeats 4000000 in
set_option maxRecDepth 100000 in
theorem m_X5_undo_ok (l : Launch) (E : Env3) (γ α : Nat → Nat) (β : Nat → Nat → Nat) (st : S) (sv : Nat → S) (N ac : Int) (tx fs fn : S) (hN : ndP γ α β) (k : Nat) (hk : k < 6) : Met l yX5_undo (Cond.code yX5_undo cX5_undo 2 (some .int) :: ALL) ({ frames := 6, cells := 0, slots := 0, locals := 127 }) (pR [.ref (γ 0)] E (pW E γ α β st sv ((k + 1 : Nat) : Int) N ac tx fs fn)) (qW (some (.int (I (k : Int)))) E (pW E γ α β st sv ((k + 1 : Nat) : Int) N ac tx fs fn) (pW E γ α β (sv k) sv (k : Int) N ac tx fs fn)) 0 0 (adIn (pW E γ α β st sv ((k + 1 : Nat) : Int) N ac tx fs fn)) :=
  match k, hk with
  | 0, _ => undo_0 l E γ α β st sv N ac tx fs fn hN
  | 1, _ => undo_1 l E γ α β st sv N ac tx fs fn hN
  | 2, _ => undo_2 l E γ α β st sv N ac tx fs fn hN
  | 3, _ => undo_3 l E γ α β st sv N ac tx fs fn hN
  | 4, _ => undo_4 l E γ α β st sv N ac tx fs fn hN
  | 5, _ => undo_5 l E γ α β st sv N ac tx fs fn hN
  | k + 6, h => absurd h (by omega)
