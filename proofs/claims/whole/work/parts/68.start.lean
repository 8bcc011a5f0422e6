/-! the law from its entry -/
theorem lng_cls {E : Env3} {s : State} {cA : ClassId} (hK : KB E s) (h : va_RA s cA .long) : cA = E.2.2.2 := by
  have h1 : s.vm.findClass ("[" ++ FieldType.long.toString) = some E.2.2.2 := (hK.1.2 2 _ rfl).2
  have h2 : s.vm.findClass ("[" ++ FieldType.long.toString) = some cA := h
  exact Option.some.inj (h2.symm.trans h1)
theorem D_apart {A : Nat → Prop} {X Y : va_W} (hD : va_D A (X ++ Y)) {q : Nat} (h1 : adIn X q) (h2 : adIn Y q) : False := by
  obtain ⟨i, e, hi⟩ := h1
  obtain ⟨j, e', hj⟩ := h2
  have hl := (List.getElem?_eq_some_iff.mp hi).1
  have g1 : (X ++ Y)[i]? = some (q, e) := by rw [List.getElem?_append_left hl]; exact hi
  have g2 : (X ++ Y)[X.length + j]? = some (q, e') := by rw [List.getElem?_append_right (by omega), show X.length + j - X.length = j by omega]; exact hj
  have := hD.1 i (X.length + j) (q, e) (q, e') g1 g2 rfl
  omega
theorem D_inA {A : Nat → Prop} {ws : va_W} (hD : va_D A ws) {q : Nat} (h : adIn ws q) : A q := by
  obtain ⟨i, e, hi⟩ := h
  exact hD.2 i _ hi
set_option maxHeartbeats 4000000 in
set_option maxRecDepth 100000 in
theorem whole_start {p : Program} {e : Env} {s : State} {m : MethodId} {below : List Frame} {meth : Method} {c : Code} (l : Launch) (hflags : l.flags = flags0) {b L : Nat} {xs : Nat → Int32} (hL : L ≤ 2048) (C0 : lw_At p s m meth c b L xs) : W p l e room_1 s m #[Value.ref b] below meth c s.heap [] 0 0 (lw_Z below #[Value.ref b] s) (entryFrame m ([Value.ref b] : List Value).toArray 9) := by
  obtain ⟨hx, hb, hr, hml, hown, hts0, hX, hbl, hlocks, hgv⟩ := C0
  have hts : ∀ w ∈ ALL, w.before #[Value.ref b] s = true := fun w h => hts0 w (qAL h)
  have hl0 : l.stackTraces = false := by
    unfold Launch.stackTraces
    rw [hflags]
    decide
  obtain ⟨E, hK⟩ := bg_KB hts0
  have hKX := bg_KX hts0 hgv
  have hZ := bg_ZX hts0 hgv
  have hown : s.vm.findClass RL = some m.cls := hown
  have hA : ∀ q : Nat, s.heap.size ≤ q → (fun q : Nat => s.heap.size ≤ q) q := fun _ h => h
  have hS : va_S (fun q : Nat => s.heap.size ≤ q) s.heap s.heap [] := va_S.rf
  have hP : va_P E.1 vwCl [] s.heap := va_P_nil
  have hD : va_D (fun q : Nat => s.heap.size ≤ q) [] := ⟨fun i j p q h => by simp at h, fun k q h => by simp at h⟩
  have hl := lv_entry ([.ref b]) (n := 9) (Nat.le_of_ble_eq_true rfl)
  rw [lg_entry_eq]
  generalize (lg_sl ([.ref b]) ++ List.replicate (9 - (lg_sl ([.ref b])).length) Slot.unset).toArray = ls at hl ⊢
  have hl : lv_has ls 9 [(0, .ref b)] := hl
  refine va_new (ci := 5) (fs := [.null, .null, .int (I 0), .null]) hx hb hts inX5 tyX5 tyX5_ok hown (hts _ cl_L_8) (hts _ ia_X5) (hts _ it_X5) hK.1 hP hD hS hA rfl (by intro j hj; rcases j with _ | _ | _ | _ | j <;> first | rfl | exact absurd hj (by omega)) (Nat.le_of_ble_eq_true rfl) (Nat.le_of_ble_eq_true rfl) dL_law_0 (fun q0 H hP hD hS => ?_)
  have hP : va_P E.1 vwCl [(q0, .inr (5, [.null, .null, .int (I 0), .null]))] H := hP
  have hD : va_D (fun q : Nat => s.heap.size ≤ q) [(q0, .inr (5, [.null, .null, .int (I 0), .null]))] := hD
  refine lv_dup hx hb dL_law_3 rfl ?_
  refine call_N (X := []) (Y := [(q0, .inr (5, [.null, .null, .int (I 0), .null]))]) (va_runI ⟨hx, hb, hml, hown, hts⟩ (m_X5_new l E q0) (cwI 0 hts (gi_all cd_X5_init) rfl rfl rfl (hts _ it_X5) (hts _ ml_L_92) (hts _ im_X5_init) rfl (by decide +kernel) ⟨Nat.le_of_ble_eq_true rfl, Nat.le_of_ble_eq_true rfl⟩) (pR_S hP hK) rfl rfl hl.1 rfl (lv_room (Nat.le_of_ble_eq_true rfl)) dL_law_4 ⟨Nat.le_of_ble_eq_true rfl, Nat.le_of_ble_eq_true rfl⟩) hP hD hS hA rfl (fun g H locs hP hD hS => ?_)
  obtain ⟨⟨γ, α, β⟩, hN, hg0⟩ := g
  have hN : ndP γ α β := hN
  obtain rfl : γ 0 = q0 := hg0
  have hP : va_P E.1 vwCl (pW E γ α β ini9 (fun _ => ini9) 0 0 0 (fun _ => 0) (fun _ => 0) (fun _ => 0)) H := hP
  have hD : va_D (fun q : Nat => s.heap.size ≤ q) (pW E γ α β ini9 (fun _ => ini9) 0 0 0 (fun _ => 0) (fun _ => 0) (fun _ => 0)) := hD
  refine lv_astore_n (lv' := [(1, .ref (γ 0)), (0, .ref b)]) hx hb dL_law_7 rfl hl (by decide) rfl (fun ls hl => ?_)
  refine va_new (ci := 6) (fs := [.int (I 0), .null, .null, .int (I 0), .null, .null, .int (I 0), .null, .int (I 0), .int (I 0), .int (I 0)]) hx hb hts inX6 tyX6 tyX6_ok hown (hts _ cl_L_93) (hts _ ia_X6) (hts _ it_X6) hK.1 hP hD hS hA rfl (by intro j hj; rcases j with _ | _ | _ | _ | _ | _ | _ | _ | _ | _ | _ | j <;> first | rfl | exact absurd hj (by omega)) (Nat.le_of_ble_eq_true rfl) (Nat.le_of_ble_eq_true rfl) dL_law_8 (fun q1 H hP hD hS => ?_)
  refine lv_dup hx hb dL_law_11 rfl ?_
  refine call_N (X := (pW E γ α β ini9 (fun _ => ini9) 0 0 0 (fun _ => 0) (fun _ => 0) (fun _ => 0))) (Y := [(q1, .inr (6, [.int (I 0), .null, .null, .int (I 0), .null, .null, .int (I 0), .null, .int (I 0), .int (I 0), .int (I 0)]))]) (va_runI ⟨hx, hb, hml, hown, hts⟩ (m_X6_init l E q1) (cwI 0 hts (gi_all cd_X6_init) rfl rfl rfl (hts _ it_X6) (hts _ ml_L_95) (hts _ im_X6_init) rfl (by decide +kernel) ⟨Nat.le_of_ble_eq_true rfl, Nat.le_of_ble_eq_true rfl⟩) (pR_S (P_mono (fun q hq => List.mem_append_right _ hq) hP) hK) rfl rfl hl.1 rfl (lv_room (Nat.le_of_ble_eq_true rfl)) dL_law_12 ⟨Nat.le_of_ble_eq_true rfl, Nat.le_of_ble_eq_true rfl⟩) hP hD hS hA rfl (fun g H locs hP hD hS => ?_)
  obtain ⟨ρ, hρ, hg1⟩ := g
  obtain rfl : ρ 0 = q1 := hg1
  have hP : va_P E.1 vwCl ((pW E γ α β ini9 (fun _ => ini9) 0 0 0 (fun _ => 0) (fun _ => 0) (fun _ => 0)) ++ (refW E ρ 0 0 0 0 0 0 ini9 (fun _ => 0) (fun _ => 0) (fun _ => 0) (fun _ => 0))) H := hP
  have hD : va_D (fun q : Nat => s.heap.size ≤ q) ((pW E γ α β ini9 (fun _ => ini9) 0 0 0 (fun _ => 0) (fun _ => 0) (fun _ => 0)) ++ (refW E ρ 0 0 0 0 0 0 ini9 (fun _ => 0) (fun _ => 0) (fun _ => 0) (fun _ => 0))) := hD
  refine lv_astore_n (lv' := [(2, .ref (ρ 0)), (1, .ref (γ 0)), (0, .ref b)]) hx hb dL_law_15 rfl hl (by decide) rfl (fun ls hl => ?_)
  refine iv_iconst hx hb dL_law_16 ?_
  refine va_newa (atype := .long) (ty := .long) (N' := 1) (a0 := (1, .inr (.inl (fun _ => 0)))) hx hb (hts _ ac_long) rfl hK.1 hP hD hS hA (fun cA => by rw [vp_cell_l]; rfl) (by decide) (by decide) (by decide) (Nat.le_of_ble_eq_true rfl) (Nat.le_of_ble_eq_true rfl) dL_law_17 ?_
  intro o cA H hK1 hP hD hS
  obtain rfl := lng_cls hK (hK1.2 (tyL E).length (cA, .long) (by rw [List.getElem?_append_right (Nat.le_refl _), Nat.sub_self]; rfl)).2
  have hDr := hD
  have pm : ∀ q ∈ (pW E γ α β ini9 (fun _ => ini9) 0 0 0 (fun _ => 0) (fun _ => 0) (fun _ => 0)), q ∈ ((pW E γ α β ini9 (fun _ => ini9) 0 0 0 (fun _ => 0) (fun _ => 0) (fun _ => 0)) ++ (refW E ρ 0 0 0 0 0 0 ini9 (fun _ => 0) (fun _ => 0) (fun _ => 0) (fun _ => 0))) ++ [(o, (.inl (E.2.2.2, 1, .inr (.inl (fun _ => 0))) : va_E))] := fun q hq => List.mem_append_left _ (List.mem_append_left _ hq)
  have rm : ∀ q ∈ (refW E ρ 0 0 0 0 0 0 ini9 (fun _ => 0) (fun _ => 0) (fun _ => 0) (fun _ => 0)), q ∈ ((pW E γ α β ini9 (fun _ => ini9) 0 0 0 (fun _ => 0) (fun _ => 0) (fun _ => 0)) ++ (refW E ρ 0 0 0 0 0 0 ini9 (fun _ => 0) (fun _ => 0) (fun _ => 0) (fun _ => 0))) ++ [(o, (.inl (E.2.2.2, 1, .inr (.inl (fun _ => 0))) : va_E))] := fun q hq => List.mem_append_left _ (List.mem_append_right _ hq)
  have om : adIn [(o, (.inl (E.2.2.2, 1, .inr (.inl (fun _ => 0))) : va_E))] o := ⟨0, _, rfl⟩
  have hD2 : va_D (fun q : Nat => s.heap.size ≤ q) ((pW E γ α β ini9 (fun _ => ini9) 0 0 0 (fun _ => 0) (fun _ => 0) (fun _ => 0)) ++ (refW E ρ 0 0 0 0 0 0 ini9 (fun _ => 0) (fun _ => 0) (fun _ => 0) (fun _ => 0))) := ⟨fun i j p q hi hj => hD.1 i j p q (by rw [List.getElem?_append_left (List.getElem?_eq_some_iff.mp hi).1]; exact hi) (by rw [List.getElem?_append_left (List.getElem?_eq_some_iff.mp hj).1]; exact hj), fun k q hk => hD.2 k q (by rw [List.getElem?_append_left (List.getElem?_eq_some_iff.mp hk).1]; exact hk)⟩
  have hC : LawC p l s m #[Value.ref b] meth c b L xs E γ α ρ o (fun x => x ∈ adP γ α β) :=
    ⟨⟨hx, hb, hr, hml, hown, hlocks, hts⟩, ⟨hX, hbl, hL⟩, ⟨hK, hKX, hZ, hl0⟩,
      fun q hq => D_inA hD (adIn_mono pm (adP_in.mp hq)), fun q hq => D_inA hD (adIn_mono rm (adR_in.mpr hq)), D_inA hD (adIn_mono (fun q hq => List.mem_append_right _ hq) om),
      fun hq => D_apart hD (adIn_mono (fun q hq => List.mem_append_left _ hq) (adP_in.mp hq)) om, fun hq => D_apart hD (adIn_mono (fun q hq => List.mem_append_right _ hq) (adR_in.mpr hq)) om,
      fun q hq hq2 => D_apart hD2 (adP_in.mp hq) (adR_in.mpr hq2), hρ⟩
  have hLI : LI ini9 (fun _ => ini9) 0 0 (fun _ => 0) (fun _ => 0) := ⟨by omega, IB_ini, IT_ini, txB_0 _, fun k hk => absurd hk (Nat.not_lt_zero k), fun k hk => absurd hk (Nat.not_lt_zero k)⟩
  have hDy : Dyn s E γ α ρ o (fun x => x ∈ adP γ α β) H locs :=
    ⟨ini9, fun _ => ini9, 0, 0, fun _ => 0, fun _ => 0, hLI, ⟨β, 0, fun _ => 0, fun _ => 0, hN, fun x => Iff.rfl, P_mono pm hP⟩, ⟨0, 0, 0, 0, fun _ => 0, fun _ => 0, P_mono rm hP⟩,
      ⟨0, fun _ => 0, rfl, hP _ _ (List.getElem?_append_right (Nat.le_refl _) |>.trans (by rw [Nat.sub_self]; rfl))⟩, hS⟩
  refine lv_astore_n (lv' := [(3, .ref o), (2, .ref (ρ 0)), (1, .ref (γ 0)), (0, .ref b)]) hx hb dL_law_19 rfl hl (by decide) rfl (fun ls hl => ?_)
  refine iv_iconst hx hb dL_law_20 ?_
  refine lv_istore (lv' := [(4, .int (I 0)), (3, .ref o), (2, .ref (ρ 0)), (1, .ref (γ 0)), (0, .ref b)]) hx hb dL_law_21 hl (by decide) rfl (fun ls hl => ?_)
  refine W.base ?_
  exact law_loop hC 513 0 (by omega) (by omega) s.drawn (Drawn.sameBut.refl s.drawn lw_cs) H locs _ _ ls (Nat.le_of_ble_eq_true rfl) (Nat.le_of_ble_eq_true rfl) hDy (lv_sub hl [4, 3, 2, 1, 0] rfl)
