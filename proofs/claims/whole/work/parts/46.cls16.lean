/-! the reference: a new one; written by cls16.py -/
def iz9 : Nat → S
  | 0 => fun _ => 0
  | i + 1 => up (up (up (iz9 i) (6 + 5 * i + 0) (pf9 i)) (6 + 5 * i + 1) 20) (6 + 5 * i + 2) 5
def ir9 : Nat → S
  | 0 => iz9 6
  | r + 1 => up (ir9 r) (36 + 6 * r + 1) (-1)
theorem ir_ini : ∀ j : Fin 252, ir9 36 j.val = ini9 j.val := by decide +kernel
theorem r_ini {E : Env3} {ρ : Nat → Nat} {th rc tl pa kd nm : Int} {hi ke tx wy : S} {H : Heap} (hP : va_P E.1 vwCl (refW E ρ th rc tl pa kd nm (ir9 36) hi ke tx wy) H) : va_P E.1 vwCl (refW E ρ th rc tl pa kd nm ini9 hi ke tx wy) H := by
  intro k q hk
  match k, hk with
  | 0, hk => exact hP 0 q hk
  | 1, hk => cases hk; exact iA_ext (fun j hj => ir_ini ⟨j, hj⟩) (hP 1 _ rfl)
  | 2, hk => exact hP 2 q hk
  | 3, hk => exact hP 3 q hk
  | 4, hk => exact hP 4 q hk
  | 5, hk => exact hP 5 q hk
  | k + 6, hk => simp at hk
theorem dR_of {A : Nat → Prop} {ws : va_W} {ρ : Nat → Nat} {n : Nat} (h : va_D A ws) (e : ws.map (·.1) = (List.range n).map ρ) : dR ρ n := by
  have h1 := nd_of_D h
  rw [e] at h1
  intro i j hi hj e1
  have g1 : ((List.range n).map ρ)[i]? = some (ρ i) := by rw [List.getElem?_map, List.getElem?_range hi]; rfl
  have g2 : ((List.range n).map ρ)[j]? = some (ρ j) := by rw [List.getElem?_map, List.getElem?_range hj]; rfl
  exact (List.getElem?_inj (by rw [List.length_map, List.length_range]; exact hi) h1).mp (by rw [g1, g2, e1])
set_option maxHeartbeats 4000000 in
set_option maxRecDepth 100000 in
theorem m_X6_init (l : Launch) (E : Env3) (a : Nat) : Met l yX6_init (Cond.code yX6_init cX6_init 2 none :: ALL) ({ frames := 1, cells := 5, slots := 2082, locals := 23 }) (pR [.ref a] E [(a, .inr (6, [(.int (I 0)), .null, .null, (.int (I 0)), .null, .null, (.int (I 0)), .null, (.int (I 0)), (.int (I 0)), (.int (I 0))]))]) (qN none E [(a, .inr (6, [(.int (I 0)), .null, .null, (.int (I 0)), .null, .null, (.int (I 0)), .null, (.int (I 0)), (.int (I 0)), (.int (I 0))]))] (fun (g : {g : Nat → Nat // dR g 6 ∧ g 0 = a}) => refW E g.1 0 0 0 0 0 0 ini9 (fun _ => 0) (fun _ => 0) (fun _ => 0) (fun _ => 0))) 5 2082 (adIn [(a, .inr (6, [(.int (I 0)), .null, .null, (.int (I 0)), .null, .null, (.int (I 0)), .null, (.int (I 0)), (.int (I 0)), (.int (I 0))]))]) := by
  refine mk_met (by decide) rfl (Nat.le_of_ble_eq_true rfl) ?_
  intro p e s m args below meth c hx hb hrt hml hts hown hlocks hnm hP hK ls hl
  have hown : s.vm.findClass RX6 = some m.cls := hown
  have hl : lv_has ls 2 [(0, .ref a)] := hl
  have hD : va_D (fun q => adIn [(a, .inr (6, [(.int (I 0)), .null, .null, (.int (I 0)), .null, .null, (.int (I 0)), .null, (.int (I 0)), (.int (I 0)), (.int (I 0))]))] q ∨ s.heap.size ≤ q) [(a, .inr (6, [(.int (I 0)), .null, .null, (.int (I 0)), .null, .null, (.int (I 0)), .null, (.int (I 0)), (.int (I 0)), (.int (I 0))]))] := va_D.weaken (D_1) (fun _ _ _ h9 => Or.inl h9)
  have hS : va_S (fun q => adIn [(a, .inr (6, [(.int (I 0)), .null, .null, (.int (I 0)), .null, .null, (.int (I 0)), .null, (.int (I 0)), (.int (I 0)), (.int (I 0))]))] q ∨ s.heap.size ≤ q) s.heap s.heap [] := va_S.rf
  refine lv_aload_n hx hb dX6_init_0 rfl (lv_lk hl rfl) ?_
  refine W.objInit hx hb hown (hts _ ml_X6_1) (hts _ im_obj) (hts _ cd_obj) rfl (hl.1.trans hml.symm) rfl dX6_init_1 (Nat.le_of_ble_eq_true rfl) (Nat.le_of_ble_eq_true rfl) ?_
  refine lv_aload_n hx hb dX6_init_4 rfl (lv_lk hl rfl) ?_
  refine iv_sipush hx hb dX6_init_5 (by decide +kernel) ?_
  refine iv_newa hx hb (hts _ ac_int) hK hP hD hS (fun _ h9 => Or.inr h9) (252) (by omega) (by omega) (Nat.le_of_ble_eq_true rfl) (Nat.le_of_ble_eq_true rfl) dX6_init_8 (fun q1 H hP hD hS => ?_)
  have hP : va_P E.1 vwCl [(a, .inr (6, [(.int (I 0)), .null, .null, (.int (I 0)), .null, .null, (.int (I 0)), .null, (.int (I 0)), (.int (I 0)), (.int (I 0))])), (q1, iA E 252 (fun _ => 0))] H := hP
  have hD : va_D (fun q => adIn [(a, .inr (6, [(.int (I 0)), .null, .null, (.int (I 0)), .null, .null, (.int (I 0)), .null, (.int (I 0)), (.int (I 0)), (.int (I 0))]))] q ∨ s.heap.size ≤ q) [(a, .inr (6, [(.int (I 0)), .null, .null, (.int (I 0)), .null, .null, (.int (I 0)), .null, (.int (I 0)), (.int (I 0)), (.int (I 0))])), (q1, iA E 252 (fun _ => 0))] := hD
  refine va_putF (ci := 6) (ty := .array .int) hx hb hts inX6 tyX6 tyX6_ok nmX6 hown hK.1 hP hD hS 0 rfl rfl 1 (by decide) (hts _ fl_X6_7) (fun _ h9 => h9) rfl hnm rfl (by decide +kernel) rfl rfl (Nat.le_of_ble_eq_true rfl) dX6_init_10 (fun H locs hP hD hS => ?_)
  have hP : va_P E.1 vwCl [(a, .inr (6, [(.int (I 0)), (.ref q1), .null, (.int (I 0)), .null, .null, (.int (I 0)), .null, (.int (I 0)), (.int (I 0)), (.int (I 0))])), (q1, iA E 252 (fun _ => 0))] H := hP
  have hD : va_D (fun q => adIn [(a, .inr (6, [(.int (I 0)), .null, .null, (.int (I 0)), .null, .null, (.int (I 0)), .null, (.int (I 0)), (.int (I 0)), (.int (I 0))]))] q ∨ s.heap.size ≤ q) [(a, .inr (6, [(.int (I 0)), (.ref q1), .null, (.int (I 0)), .null, .null, (.int (I 0)), .null, (.int (I 0)), (.int (I 0)), (.int (I 0))])), (q1, iA E 252 (fun _ => 0))] := hD
  refine lv_aload_n hx hb dX6_init_13 rfl (lv_lk hl rfl) ?_
  refine iv_sipush hx hb dX6_init_14 (by decide +kernel) ?_
  refine iv_newa hx hb (hts _ ac_int) hK hP hD hS (fun _ h9 => Or.inr h9) (1512) (by omega) (by omega) (Nat.le_of_ble_eq_true rfl) (Nat.le_of_ble_eq_true rfl) dX6_init_17 (fun q2 H hP hD hS => ?_)
  have hP : va_P E.1 vwCl [(a, .inr (6, [(.int (I 0)), (.ref q1), .null, (.int (I 0)), .null, .null, (.int (I 0)), .null, (.int (I 0)), (.int (I 0)), (.int (I 0))])), (q1, iA E 252 (fun _ => 0)), (q2, iA E 1512 (fun _ => 0))] H := hP
  have hD : va_D (fun q => adIn [(a, .inr (6, [(.int (I 0)), .null, .null, (.int (I 0)), .null, .null, (.int (I 0)), .null, (.int (I 0)), (.int (I 0)), (.int (I 0))]))] q ∨ s.heap.size ≤ q) [(a, .inr (6, [(.int (I 0)), (.ref q1), .null, (.int (I 0)), .null, .null, (.int (I 0)), .null, (.int (I 0)), (.int (I 0)), (.int (I 0))])), (q1, iA E 252 (fun _ => 0)), (q2, iA E 1512 (fun _ => 0))] := hD
  refine va_putF (ci := 6) (ty := .array .int) hx hb hts inX6 tyX6 tyX6_ok nmX6 hown hK.1 hP hD hS 0 rfl rfl 2 (by decide) (hts _ fl_X6_13) (fun _ h9 => h9) rfl hnm rfl (by decide +kernel) rfl rfl (Nat.le_of_ble_eq_true rfl) dX6_init_19 (fun H locs hP hD hS => ?_)
  have hP : va_P E.1 vwCl [(a, .inr (6, [(.int (I 0)), (.ref q1), (.ref q2), (.int (I 0)), .null, .null, (.int (I 0)), .null, (.int (I 0)), (.int (I 0)), (.int (I 0))])), (q1, iA E 252 (fun _ => 0)), (q2, iA E 1512 (fun _ => 0))] H := hP
  have hD : va_D (fun q => adIn [(a, .inr (6, [(.int (I 0)), .null, .null, (.int (I 0)), .null, .null, (.int (I 0)), .null, (.int (I 0)), (.int (I 0)), (.int (I 0))]))] q ∨ s.heap.size ≤ q) [(a, .inr (6, [(.int (I 0)), (.ref q1), (.ref q2), (.int (I 0)), .null, .null, (.int (I 0)), .null, (.int (I 0)), (.int (I 0)), (.int (I 0))])), (q1, iA E 252 (fun _ => 0)), (q2, iA E 1512 (fun _ => 0))] := hD
  refine lv_aload_n hx hb dX6_init_22 rfl (lv_lk hl rfl) ?_
  refine iv_sipush hx hb dX6_init_23 (by decide +kernel) ?_
  refine iv_newa hx hb (hts _ ac_int) hK hP hD hS (fun _ h9 => Or.inr h9) (252) (by omega) (by omega) (Nat.le_of_ble_eq_true rfl) (Nat.le_of_ble_eq_true rfl) dX6_init_26 (fun q3 H hP hD hS => ?_)
  have hP : va_P E.1 vwCl [(a, .inr (6, [(.int (I 0)), (.ref q1), (.ref q2), (.int (I 0)), .null, .null, (.int (I 0)), .null, (.int (I 0)), (.int (I 0)), (.int (I 0))])), (q1, iA E 252 (fun _ => 0)), (q2, iA E 1512 (fun _ => 0)), (q3, iA E 252 (fun _ => 0))] H := hP
  have hD : va_D (fun q => adIn [(a, .inr (6, [(.int (I 0)), .null, .null, (.int (I 0)), .null, .null, (.int (I 0)), .null, (.int (I 0)), (.int (I 0)), (.int (I 0))]))] q ∨ s.heap.size ≤ q) [(a, .inr (6, [(.int (I 0)), (.ref q1), (.ref q2), (.int (I 0)), .null, .null, (.int (I 0)), .null, (.int (I 0)), (.int (I 0)), (.int (I 0))])), (q1, iA E 252 (fun _ => 0)), (q2, iA E 1512 (fun _ => 0)), (q3, iA E 252 (fun _ => 0))] := hD
  refine va_putF (ci := 6) (ty := .array .int) hx hb hts inX6 tyX6 tyX6_ok nmX6 hown hK.1 hP hD hS 0 rfl rfl 4 (by decide) (hts _ fl_X6_16) (fun _ h9 => h9) rfl hnm rfl (by decide +kernel) rfl rfl (Nat.le_of_ble_eq_true rfl) dX6_init_28 (fun H locs hP hD hS => ?_)
  have hP : va_P E.1 vwCl [(a, .inr (6, [(.int (I 0)), (.ref q1), (.ref q2), (.int (I 0)), (.ref q3), .null, (.int (I 0)), .null, (.int (I 0)), (.int (I 0)), (.int (I 0))])), (q1, iA E 252 (fun _ => 0)), (q2, iA E 1512 (fun _ => 0)), (q3, iA E 252 (fun _ => 0))] H := hP
  have hD : va_D (fun q => adIn [(a, .inr (6, [(.int (I 0)), .null, .null, (.int (I 0)), .null, .null, (.int (I 0)), .null, (.int (I 0)), (.int (I 0)), (.int (I 0))]))] q ∨ s.heap.size ≤ q) [(a, .inr (6, [(.int (I 0)), (.ref q1), (.ref q2), (.int (I 0)), (.ref q3), .null, (.int (I 0)), .null, (.int (I 0)), (.int (I 0)), (.int (I 0))])), (q1, iA E 252 (fun _ => 0)), (q2, iA E 1512 (fun _ => 0)), (q3, iA E 252 (fun _ => 0))] := hD
  refine lv_aload_n hx hb dX6_init_31 rfl (lv_lk hl rfl) ?_
  refine iv_bipush hx hb dX6_init_32 (by decide +kernel) ?_
  refine iv_newa hx hb (hts _ ac_int) hK hP hD hS (fun _ h9 => Or.inr h9) (60) (by omega) (by omega) (Nat.le_of_ble_eq_true rfl) (Nat.le_of_ble_eq_true rfl) dX6_init_34 (fun q4 H hP hD hS => ?_)
  have hP : va_P E.1 vwCl [(a, .inr (6, [(.int (I 0)), (.ref q1), (.ref q2), (.int (I 0)), (.ref q3), .null, (.int (I 0)), .null, (.int (I 0)), (.int (I 0)), (.int (I 0))])), (q1, iA E 252 (fun _ => 0)), (q2, iA E 1512 (fun _ => 0)), (q3, iA E 252 (fun _ => 0)), (q4, iA E 60 (fun _ => 0))] H := hP
  have hD : va_D (fun q => adIn [(a, .inr (6, [(.int (I 0)), .null, .null, (.int (I 0)), .null, .null, (.int (I 0)), .null, (.int (I 0)), (.int (I 0)), (.int (I 0))]))] q ∨ s.heap.size ≤ q) [(a, .inr (6, [(.int (I 0)), (.ref q1), (.ref q2), (.int (I 0)), (.ref q3), .null, (.int (I 0)), .null, (.int (I 0)), (.int (I 0)), (.int (I 0))])), (q1, iA E 252 (fun _ => 0)), (q2, iA E 1512 (fun _ => 0)), (q3, iA E 252 (fun _ => 0)), (q4, iA E 60 (fun _ => 0))] := hD
  refine va_putF (ci := 6) (ty := .array .int) hx hb hts inX6 tyX6 tyX6_ok nmX6 hown hK.1 hP hD hS 0 rfl rfl 5 (by decide) (hts _ fl_X6_19) (fun _ h9 => h9) rfl hnm rfl (by decide +kernel) rfl rfl (Nat.le_of_ble_eq_true rfl) dX6_init_36 (fun H locs hP hD hS => ?_)
  have hP : va_P E.1 vwCl [(a, .inr (6, [(.int (I 0)), (.ref q1), (.ref q2), (.int (I 0)), (.ref q3), (.ref q4), (.int (I 0)), .null, (.int (I 0)), (.int (I 0)), (.int (I 0))])), (q1, iA E 252 (fun _ => 0)), (q2, iA E 1512 (fun _ => 0)), (q3, iA E 252 (fun _ => 0)), (q4, iA E 60 (fun _ => 0))] H := hP
  have hD : va_D (fun q => adIn [(a, .inr (6, [(.int (I 0)), .null, .null, (.int (I 0)), .null, .null, (.int (I 0)), .null, (.int (I 0)), (.int (I 0)), (.int (I 0))]))] q ∨ s.heap.size ≤ q) [(a, .inr (6, [(.int (I 0)), (.ref q1), (.ref q2), (.int (I 0)), (.ref q3), (.ref q4), (.int (I 0)), .null, (.int (I 0)), (.int (I 0)), (.int (I 0))])), (q1, iA E 252 (fun _ => 0)), (q2, iA E 1512 (fun _ => 0)), (q3, iA E 252 (fun _ => 0)), (q4, iA E 60 (fun _ => 0))] := hD
  refine lv_aload_n hx hb dX6_init_39 rfl (lv_lk hl rfl) ?_
  refine iv_bipush hx hb dX6_init_40 (by decide +kernel) ?_
  refine iv_newa hx hb (hts _ ac_int) hK hP hD hS (fun _ h9 => Or.inr h9) (6) (by omega) (by omega) (Nat.le_of_ble_eq_true rfl) (Nat.le_of_ble_eq_true rfl) dX6_init_42 (fun q5 H hP hD hS => ?_)
  have hP : va_P E.1 vwCl [(a, .inr (6, [(.int (I 0)), (.ref q1), (.ref q2), (.int (I 0)), (.ref q3), (.ref q4), (.int (I 0)), .null, (.int (I 0)), (.int (I 0)), (.int (I 0))])), (q1, iA E 252 (fun _ => 0)), (q2, iA E 1512 (fun _ => 0)), (q3, iA E 252 (fun _ => 0)), (q4, iA E 60 (fun _ => 0)), (q5, iA E 6 (fun _ => 0))] H := hP
  have hD : va_D (fun q => adIn [(a, .inr (6, [(.int (I 0)), .null, .null, (.int (I 0)), .null, .null, (.int (I 0)), .null, (.int (I 0)), (.int (I 0)), (.int (I 0))]))] q ∨ s.heap.size ≤ q) [(a, .inr (6, [(.int (I 0)), (.ref q1), (.ref q2), (.int (I 0)), (.ref q3), (.ref q4), (.int (I 0)), .null, (.int (I 0)), (.int (I 0)), (.int (I 0))])), (q1, iA E 252 (fun _ => 0)), (q2, iA E 1512 (fun _ => 0)), (q3, iA E 252 (fun _ => 0)), (q4, iA E 60 (fun _ => 0)), (q5, iA E 6 (fun _ => 0))] := hD
  refine va_putF (ci := 6) (ty := .array .int) hx hb hts inX6 tyX6 tyX6_ok nmX6 hown hK.1 hP hD hS 0 rfl rfl 7 (by decide) (hts _ fl_X6_22) (fun _ h9 => h9) rfl hnm rfl (by decide +kernel) rfl rfl (Nat.le_of_ble_eq_true rfl) dX6_init_44 (fun H locs hP hD hS => ?_)
  have hP : va_P E.1 vwCl [(a, .inr (6, [(.int (I 0)), (.ref q1), (.ref q2), (.int (I 0)), (.ref q3), (.ref q4), (.int (I 0)), (.ref q5), (.int (I 0)), (.int (I 0)), (.int (I 0))])), (q1, iA E 252 (fun _ => 0)), (q2, iA E 1512 (fun _ => 0)), (q3, iA E 252 (fun _ => 0)), (q4, iA E 60 (fun _ => 0)), (q5, iA E 6 (fun _ => 0))] H := hP
  have hD : va_D (fun q => adIn [(a, .inr (6, [(.int (I 0)), .null, .null, (.int (I 0)), .null, .null, (.int (I 0)), .null, (.int (I 0)), (.int (I 0)), (.int (I 0))]))] q ∨ s.heap.size ≤ q) [(a, .inr (6, [(.int (I 0)), (.ref q1), (.ref q2), (.int (I 0)), (.ref q3), (.ref q4), (.int (I 0)), (.ref q5), (.int (I 0)), (.int (I 0)), (.int (I 0))])), (q1, iA E 252 (fun _ => 0)), (q2, iA E 1512 (fun _ => 0)), (q3, iA E 252 (fun _ => 0)), (q4, iA E 60 (fun _ => 0)), (q5, iA E 6 (fun _ => 0))] := hD
  have hP : va_P E.1 vwCl (refW E (fun i => [a, q1, q2, q3, q4, q5].getD i 0) 0 0 0 0 0 0 (iz9 0) (fun _ => 0) (fun _ => 0) (fun _ => 0) (fun _ => 0)) H := hP
  have hD : va_D (fun q => adIn [(a, .inr (6, [(.int (I 0)), .null, .null, (.int (I 0)), .null, .null, (.int (I 0)), .null, (.int (I 0)), (.int (I 0)), (.int (I 0))]))] q ∨ s.heap.size ≤ q) (refW E (fun i => [a, q1, q2, q3, q4, q5].getD i 0) 0 0 0 0 0 0 (iz9 0) (fun _ => 0) (fun _ => 0) (fun _ => 0) (fun _ => 0)) := hD
  have hρ9 : dR (fun i => [a, q1, q2, q3, q4, q5].getD i 0) 6 := dR_of hD rfl
  refine iv_iconst hx hb dX6_init_47 ?_
  refine lv_istore_n (lv' := [(1, .int (I _)), (0, .ref _)]) hx hb dX6_init_48 rfl hl (by decide) rfl (fun ls hl => ?_)
  have LOOP49 : ∀ (n9 i : Nat), (i + n9 = 6) → ∀ (H : Heap) (locs : List Loc) (ls : Array Slot), va_P E.1 vwCl (refW E (fun i => [a, q1, q2, q3, q4, q5].getD i 0) 0 0 0 0 0 0 (iz9 i) (fun _ => 0) (fun _ => 0) (fun _ => 0) (fun _ => 0)) H → va_S (fun q => adIn [(a, .inr (6, [(.int (I 0)), .null, .null, (.int (I 0)), .null, .null, (.int (I 0)), .null, (.int (I 0)), (.int (I 0)), (.int (I 0))]))] q ∨ s.heap.size ≤ q) s.heap H locs → lv_has ls 2 [(0, .ref a), (1, .int (I (i : Int)))] → W p l e ({ frames := 1, cells := 5, slots := 2082, locals := 23 }) s m args below meth c H locs 5 2082 (MQ below (qN none E [(a, .inr (6, [(.int (I 0)), .null, .null, (.int (I 0)), .null, .null, (.int (I 0)), .null, (.int (I 0)), (.int (I 0)), (.int (I 0))]))] (fun (g : {g : Nat → Nat // dR g 6 ∧ g 0 = a}) => refW E g.1 0 0 0 0 0 0 ini9 (fun _ => 0) (fun _ => 0) (fun _ => 0) (fun _ => 0))) args s 5 2082 (adIn [(a, .inr (6, [(.int (I 0)), .null, .null, (.int (I 0)), .null, .null, (.int (I 0)), .null, (.int (I 0)), (.int (I 0)), (.int (I 0))]))])) (F0 m 49 ls []) := by
    intro n9
    induction n9 with
    | zero =>
      intro  i hi8 H locs ls hP hS hl
      obtain rfl : i = 6 := by omega
      refine lv_iload_n hx hb dX6_init_49 rfl (lv_lk hl rfl) ?_
      refine iv_bipush hx hb dX6_init_50 (by decide +kernel) ?_
      refine iv_icmp_ge (tgt := 95) hx hb dX6_init_52 (by decide) (by omega) (by omega) (fun c_52 => ?_) (fun c_52 => by exfalso; omega)
      refine iv_iconst hx hb dX6_init_95 ?_
      refine lv_istore_n (lv' := [(1, .int (I _)), (0, .ref _)]) hx hb dX6_init_96 rfl hl (by decide) rfl (fun ls hl => ?_)
      have LOOP97 : ∀ (n9 i : Nat), (i + n9 = 36) → ∀ (H : Heap) (locs : List Loc) (ls : Array Slot), va_P E.1 vwCl (refW E (fun i => [a, q1, q2, q3, q4, q5].getD i 0) 0 0 0 0 0 0 (ir9 i) (fun _ => 0) (fun _ => 0) (fun _ => 0) (fun _ => 0)) H → va_S (fun q => adIn [(a, .inr (6, [(.int (I 0)), .null, .null, (.int (I 0)), .null, .null, (.int (I 0)), .null, (.int (I 0)), (.int (I 0)), (.int (I 0))]))] q ∨ s.heap.size ≤ q) s.heap H locs → lv_has ls 2 [(0, .ref a), (1, .int (I (i : Int)))] → W p l e ({ frames := 1, cells := 5, slots := 2082, locals := 23 }) s m args below meth c H locs 5 2082 (MQ below (qN none E [(a, .inr (6, [(.int (I 0)), .null, .null, (.int (I 0)), .null, .null, (.int (I 0)), .null, (.int (I 0)), (.int (I 0)), (.int (I 0))]))] (fun (g : {g : Nat → Nat // dR g 6 ∧ g 0 = a}) => refW E g.1 0 0 0 0 0 0 ini9 (fun _ => 0) (fun _ => 0) (fun _ => 0) (fun _ => 0))) args s 5 2082 (adIn [(a, .inr (6, [(.int (I 0)), .null, .null, (.int (I 0)), .null, .null, (.int (I 0)), .null, (.int (I 0)), (.int (I 0)), (.int (I 0))]))])) (F0 m 97 ls []) := by
        intro n9
        induction n9 with
        | zero =>
          intro  i hi8 H locs ls hP hS hl
          obtain rfl : i = 36 := by omega
          refine lv_iload_n hx hb dX6_init_97 rfl (lv_lk hl rfl) ?_
          refine iv_bipush hx hb dX6_init_98 (by decide +kernel) ?_
          refine iv_icmp_ge (tgt := 116) hx hb dX6_init_100 (by decide) (by omega) (by omega) (fun c_100 => ?_) (fun c_100 => by exfalso; omega)
          refine W_old ?_
          exact W.vret hx hb hrt (fun t ht hW => ⟨rfl, ⟨⟨(fun i => [a, q1, q2, q3, q4, q5].getD i 0), hρ9, rfl⟩, by rw [ht]; exact (r_ini hP), dm hD rfl⟩, new_F hS ht⟩) (old_in hS) dX6_init_116 hlocks
        | succ n9 ih =>
          intro  i hi8 H locs ls hP hS hl
          refine lv_iload_n hx hb dX6_init_97 rfl (lv_lk hl rfl) ?_
          refine iv_bipush hx hb dX6_init_98 (by decide +kernel) ?_
          refine iv_icmp_ge (tgt := 116) hx hb dX6_init_100 (by decide) (by omega) (by omega) (fun c_100 => by exfalso; omega) (fun c_100 => ?_)
          refine lv_aload_n hx hb dX6_init_103 rfl (lv_lk hl rfl) ?_
          refine lv_iload_n hx hb dX6_init_104 rfl (lv_lk hl rfl) ?_
          refine iv_iconst hx hb dX6_init_105 ?_
          refine iv_iconst hx hb dX6_init_106 ?_
          refine call_F (va_runV ⟨hx, hb, hml, hown, hts⟩ (m_X6_puts l E (fun i => [a, q1, q2, q3, q4, q5].getD i 0) 0 0 0 0 0 0 (ir9 i) (fun _ => 0) (fun _ => 0) (fun _ => 0) (fun _ => 0) hρ9 i 1 (-1) (by omega) (by decide)) (cwV 3 hts (gi_V ml_X6_29 im_X6_puts sl_X6_puts it_X6 cd_X6_puts) rfl rfl rfl (by decide +kernel) ⟨Nat.le_of_ble_eq_true rfl, Nat.le_of_ble_eq_true rfl⟩) (pR_V (q0 := 0) (ci := 6) hP hK rfl rfl) rfl rfl hl.1 rfl (lv_room (Nat.le_of_ble_eq_true rfl)) dX6_init_107 ⟨Nat.le_of_ble_eq_true rfl, Nat.le_of_ble_eq_true rfl⟩) (dm hD rfl) hS rfl (fun H locs hP hS => ?_)
          have hP : va_P E.1 vwCl (refW E (fun i => [a, q1, q2, q3, q4, q5].getD i 0) 0 0 0 0 0 0 (up (ir9 i) (36 + 6 * i + 1) (-1)) (fun _ => 0) (fun _ => 0) (fun _ => 0) (fun _ => 0)) H := hP
          refine iv_iinc (k := 1) hx hb dX6_init_110 hl rfl (((i + 1 : Nat) : Int)) (by omega) (by decide) [(1, .int (I _)), (0, .ref _)] rfl (fun ls hl => ?_)
          refine lv_goto (tgt := 97) hx hb dX6_init_113 (by decide) ?_
          exact ih (i + 1) (by omega) H locs ls hP hS (lv_sub hl [1, 0] rfl)
      exact LOOP97 36 0 (by omega) _ _ _ hP hS (lv_sub hl [1, 0] rfl)
    | succ n9 ih =>
      intro  i hi8 H locs ls hP hS hl
      refine lv_iload_n hx hb dX6_init_49 rfl (lv_lk hl rfl) ?_
      refine iv_bipush hx hb dX6_init_50 (by decide +kernel) ?_
      refine iv_icmp_ge (tgt := 95) hx hb dX6_init_52 (by decide) (by omega) (by omega) (fun c_52 => by exfalso; omega) (fun c_52 => ?_)
      refine lv_aload_n hx hb dX6_init_55 rfl (lv_lk hl rfl) ?_
      refine lv_iload_n hx hb dX6_init_56 rfl (lv_lk hl rfl) ?_
      refine iv_iconst hx hb dX6_init_57 ?_
      refine lv_iload_n hx hb dX6_init_58 rfl (lv_lk hl rfl) ?_
      refine iv_if_ne (tgt := 66) hx hb dX6_init_59 (by decide) (by omega) (fun c_59 => ?_) (fun c_59 => ?_)
      · refine lv_iload_n hx hb dX6_init_66 rfl (lv_lk hl rfl) ?_
        refine iv_iconst hx hb dX6_init_67 ?_
        refine iv_isub hx hb dX6_init_68 ?_
        refine iv_iconst hx hb dX6_init_69 ?_
        refine iv_idiv hx hb dX6_init_70 ((((i - 1) / 2 : Nat) : Int)) (by rw [show ((i : Int) - 1) = ((i - 1 : Nat) : Int) by omega]; exact I_div (x := i - 1) (y := 2) (by omega) (by omega)) (by omega) ?_
        refine iv_eq (pf9 i) (by unfold pf9; rw [if_neg (by omega)]) ?_
        refine call_F (va_runV ⟨hx, hb, hml, hown, hts⟩ (m_X6_putsZone l E (fun i => [a, q1, q2, q3, q4, q5].getD i 0) 0 0 0 0 0 0 (iz9 i) (fun _ => 0) (fun _ => 0) (fun _ => 0) (fun _ => 0) hρ9 i 0 (pf9 i) (by omega) (by decide)) (cwV 3 hts (gi_V ml_X6_25 im_X6_putsZone sl_X6_putsZone it_X6 cd_X6_putsZone) rfl rfl rfl (by decide +kernel) ⟨Nat.le_of_ble_eq_true rfl, Nat.le_of_ble_eq_true rfl⟩) (pR_V (q0 := 0) (ci := 6) hP hK rfl rfl) rfl rfl hl.1 rfl (lv_room (Nat.le_of_ble_eq_true rfl)) dX6_init_71 ⟨Nat.le_of_ble_eq_true rfl, Nat.le_of_ble_eq_true rfl⟩) (dm hD rfl) hS rfl (fun H locs hP hS => ?_)
        have hP : va_P E.1 vwCl (refW E (fun i => [a, q1, q2, q3, q4, q5].getD i 0) 0 0 0 0 0 0 (up (iz9 i) (6 + 5 * i + 0) (pf9 i)) (fun _ => 0) (fun _ => 0) (fun _ => 0) (fun _ => 0)) H := hP
        refine lv_aload_n hx hb dX6_init_74 rfl (lv_lk hl rfl) ?_
        refine lv_iload_n hx hb dX6_init_75 rfl (lv_lk hl rfl) ?_
        refine iv_iconst hx hb dX6_init_76 ?_
        refine iv_bipush hx hb dX6_init_77 (by decide +kernel) ?_
        refine call_F (va_runV ⟨hx, hb, hml, hown, hts⟩ (m_X6_putsZone l E (fun i => [a, q1, q2, q3, q4, q5].getD i 0) 0 0 0 0 0 0 (up (iz9 i) (6 + 5 * i + 0) (pf9 i)) (fun _ => 0) (fun _ => 0) (fun _ => 0) (fun _ => 0) hρ9 i 1 20 (by omega) (by decide)) (cwV 3 hts (gi_V ml_X6_25 im_X6_putsZone sl_X6_putsZone it_X6 cd_X6_putsZone) rfl rfl rfl (by decide +kernel) ⟨Nat.le_of_ble_eq_true rfl, Nat.le_of_ble_eq_true rfl⟩) (pR_V (q0 := 0) (ci := 6) hP hK rfl rfl) rfl rfl hl.1 rfl (lv_room (Nat.le_of_ble_eq_true rfl)) dX6_init_79 ⟨Nat.le_of_ble_eq_true rfl, Nat.le_of_ble_eq_true rfl⟩) (dm hD rfl) hS rfl (fun H locs hP hS => ?_)
        have hP : va_P E.1 vwCl (refW E (fun i => [a, q1, q2, q3, q4, q5].getD i 0) 0 0 0 0 0 0 (up (up (iz9 i) (6 + 5 * i + 0) (pf9 i)) (6 + 5 * i + 1) 20) (fun _ => 0) (fun _ => 0) (fun _ => 0) (fun _ => 0)) H := hP
        refine lv_aload_n hx hb dX6_init_82 rfl (lv_lk hl rfl) ?_
        refine lv_iload_n hx hb dX6_init_83 rfl (lv_lk hl rfl) ?_
        refine iv_iconst hx hb dX6_init_84 ?_
        refine iv_iconst hx hb dX6_init_85 ?_
        refine call_F (va_runV ⟨hx, hb, hml, hown, hts⟩ (m_X6_putsZone l E (fun i => [a, q1, q2, q3, q4, q5].getD i 0) 0 0 0 0 0 0 (up (up (iz9 i) (6 + 5 * i + 0) (pf9 i)) (6 + 5 * i + 1) 20) (fun _ => 0) (fun _ => 0) (fun _ => 0) (fun _ => 0) hρ9 i 2 5 (by omega) (by decide)) (cwV 3 hts (gi_V ml_X6_25 im_X6_putsZone sl_X6_putsZone it_X6 cd_X6_putsZone) rfl rfl rfl (by decide +kernel) ⟨Nat.le_of_ble_eq_true rfl, Nat.le_of_ble_eq_true rfl⟩) (pR_V (q0 := 0) (ci := 6) hP hK rfl rfl) rfl rfl hl.1 rfl (lv_room (Nat.le_of_ble_eq_true rfl)) dX6_init_86 ⟨Nat.le_of_ble_eq_true rfl, Nat.le_of_ble_eq_true rfl⟩) (dm hD rfl) hS rfl (fun H locs hP hS => ?_)
        have hP : va_P E.1 vwCl (refW E (fun i => [a, q1, q2, q3, q4, q5].getD i 0) 0 0 0 0 0 0 (up (up (up (iz9 i) (6 + 5 * i + 0) (pf9 i)) (6 + 5 * i + 1) 20) (6 + 5 * i + 2) 5) (fun _ => 0) (fun _ => 0) (fun _ => 0) (fun _ => 0)) H := hP
        refine iv_iinc (k := 1) hx hb dX6_init_89 hl rfl (((i + 1 : Nat) : Int)) (by omega) (by decide) [(1, .int (I _)), (0, .ref _)] rfl (fun ls hl => ?_)
        refine lv_goto (tgt := 49) hx hb dX6_init_92 (by decide) ?_
        exact ih (i + 1) (by omega) H locs ls hP hS (lv_sub hl [1, 0] rfl)
      · refine iv_iconst hx hb dX6_init_62 ?_
        refine lv_goto (tgt := 71) hx hb dX6_init_63 (by decide) ?_
        refine iv_eq (pf9 i) (by unfold pf9; rw [if_pos (by omega)]) ?_
        refine call_F (va_runV ⟨hx, hb, hml, hown, hts⟩ (m_X6_putsZone l E (fun i => [a, q1, q2, q3, q4, q5].getD i 0) 0 0 0 0 0 0 (iz9 i) (fun _ => 0) (fun _ => 0) (fun _ => 0) (fun _ => 0) hρ9 i 0 (pf9 i) (by omega) (by decide)) (cwV 3 hts (gi_V ml_X6_25 im_X6_putsZone sl_X6_putsZone it_X6 cd_X6_putsZone) rfl rfl rfl (by decide +kernel) ⟨Nat.le_of_ble_eq_true rfl, Nat.le_of_ble_eq_true rfl⟩) (pR_V (q0 := 0) (ci := 6) hP hK rfl rfl) rfl rfl hl.1 rfl (lv_room (Nat.le_of_ble_eq_true rfl)) dX6_init_71 ⟨Nat.le_of_ble_eq_true rfl, Nat.le_of_ble_eq_true rfl⟩) (dm hD rfl) hS rfl (fun H locs hP hS => ?_)
        have hP : va_P E.1 vwCl (refW E (fun i => [a, q1, q2, q3, q4, q5].getD i 0) 0 0 0 0 0 0 (up (iz9 i) (6 + 5 * i + 0) (pf9 i)) (fun _ => 0) (fun _ => 0) (fun _ => 0) (fun _ => 0)) H := hP
        refine lv_aload_n hx hb dX6_init_74 rfl (lv_lk hl rfl) ?_
        refine lv_iload_n hx hb dX6_init_75 rfl (lv_lk hl rfl) ?_
        refine iv_iconst hx hb dX6_init_76 ?_
        refine iv_bipush hx hb dX6_init_77 (by decide +kernel) ?_
        refine call_F (va_runV ⟨hx, hb, hml, hown, hts⟩ (m_X6_putsZone l E (fun i => [a, q1, q2, q3, q4, q5].getD i 0) 0 0 0 0 0 0 (up (iz9 i) (6 + 5 * i + 0) (pf9 i)) (fun _ => 0) (fun _ => 0) (fun _ => 0) (fun _ => 0) hρ9 i 1 20 (by omega) (by decide)) (cwV 3 hts (gi_V ml_X6_25 im_X6_putsZone sl_X6_putsZone it_X6 cd_X6_putsZone) rfl rfl rfl (by decide +kernel) ⟨Nat.le_of_ble_eq_true rfl, Nat.le_of_ble_eq_true rfl⟩) (pR_V (q0 := 0) (ci := 6) hP hK rfl rfl) rfl rfl hl.1 rfl (lv_room (Nat.le_of_ble_eq_true rfl)) dX6_init_79 ⟨Nat.le_of_ble_eq_true rfl, Nat.le_of_ble_eq_true rfl⟩) (dm hD rfl) hS rfl (fun H locs hP hS => ?_)
        have hP : va_P E.1 vwCl (refW E (fun i => [a, q1, q2, q3, q4, q5].getD i 0) 0 0 0 0 0 0 (up (up (iz9 i) (6 + 5 * i + 0) (pf9 i)) (6 + 5 * i + 1) 20) (fun _ => 0) (fun _ => 0) (fun _ => 0) (fun _ => 0)) H := hP
        refine lv_aload_n hx hb dX6_init_82 rfl (lv_lk hl rfl) ?_
        refine lv_iload_n hx hb dX6_init_83 rfl (lv_lk hl rfl) ?_
        refine iv_iconst hx hb dX6_init_84 ?_
        refine iv_iconst hx hb dX6_init_85 ?_
        refine call_F (va_runV ⟨hx, hb, hml, hown, hts⟩ (m_X6_putsZone l E (fun i => [a, q1, q2, q3, q4, q5].getD i 0) 0 0 0 0 0 0 (up (up (iz9 i) (6 + 5 * i + 0) (pf9 i)) (6 + 5 * i + 1) 20) (fun _ => 0) (fun _ => 0) (fun _ => 0) (fun _ => 0) hρ9 i 2 5 (by omega) (by decide)) (cwV 3 hts (gi_V ml_X6_25 im_X6_putsZone sl_X6_putsZone it_X6 cd_X6_putsZone) rfl rfl rfl (by decide +kernel) ⟨Nat.le_of_ble_eq_true rfl, Nat.le_of_ble_eq_true rfl⟩) (pR_V (q0 := 0) (ci := 6) hP hK rfl rfl) rfl rfl hl.1 rfl (lv_room (Nat.le_of_ble_eq_true rfl)) dX6_init_86 ⟨Nat.le_of_ble_eq_true rfl, Nat.le_of_ble_eq_true rfl⟩) (dm hD rfl) hS rfl (fun H locs hP hS => ?_)
        have hP : va_P E.1 vwCl (refW E (fun i => [a, q1, q2, q3, q4, q5].getD i 0) 0 0 0 0 0 0 (up (up (up (iz9 i) (6 + 5 * i + 0) (pf9 i)) (6 + 5 * i + 1) 20) (6 + 5 * i + 2) 5) (fun _ => 0) (fun _ => 0) (fun _ => 0) (fun _ => 0)) H := hP
        refine iv_iinc (k := 1) hx hb dX6_init_89 hl rfl (((i + 1 : Nat) : Int)) (by omega) (by decide) [(1, .int (I _)), (0, .ref _)] rfl (fun ls hl => ?_)
        refine lv_goto (tgt := 49) hx hb dX6_init_92 (by decide) ?_
        exact ih (i + 1) (by omega) H locs ls hP hS (lv_sub hl [1, 0] rfl)
  exact LOOP49 6 0 (by omega) _ _ _ hP hS (lv_sub hl [1, 0] rfl)
