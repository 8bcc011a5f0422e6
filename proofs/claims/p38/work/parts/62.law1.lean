/-! the law's own methods: leaves; written by law1.py -/
theorem mk_p {l : Launch} {y : MethodName} {ws : List Cond} {rm : Room} {av : List Value} {E : Env3} {Pin : Heap → Prop} {Qc : Array Value → State → Outcome → State → Prop} {mc ms : Nat} {free : Addr → Prop} {cc : ByteArray} {maxL : Nat} {ret : Option FieldType}
    (hy : plainName y.cls = true) (hw : ws = Cond.code y cc maxL ret :: ALL) (hn : (lg_sl av).length ≤ maxL)
    (body : ∀ (p : Program) (e : Jvm.Env) (s : State) (m : MethodId) (args : Array Value) (below : List Frame) (meth : Method) (c : Code), p.tables.exec = Jvm.exec → c.code = cc → meth.sig.returnType = ret → c.maxLocals = maxL → (∀ w ∈ ALL, w.before args s = true) → s.vm.findClass y.cls = some m.cls → meth.locks = false →
      KB E s → Pin s.heap → ∀ ls : Array Slot, lv_has ls maxL (lv_args 0 av) →
      W p l e rm s m args below meth c s.heap [] 0 0 (MQ below Qc args s mc ms free) (F0 m 0 ls [])) : Met l y ws rm (pP av E Pin) Qc mc ms free := by
  refine Met.ofW (cc := cc) (maxL := maxL) (ret := ret) hy hw ?_
  intro p e s m args below meth c s₁ B hml hv
  obtain ⟨rfl, hK, hP⟩ := hv
  rw [lg_entry_eq]
  have hts := atoms_spec (ws := ws) B.pre
  exact body p e s m _ below meth c B.exec B.bytes B.returns hml (fun w h => hts w (by rw [hw]; exact List.mem_cons_of_mem _ h)) (findClass_of_methodNamed B.named) B.notSynchronized hK hP _ (lv_entry av hn)
def pC (b L : Nat) (xs : Nat → Int32) (k : Int) : Array Value → State → Prop := fun v U => v = ([.ref b, .int (I k)] : List Value).toArray ∧ va_X b L xs U U.heap
theorem pC_S {b L : Nat} {xs : Nat → Int32} {k : Int} {s : State} {H : Heap} (hX : va_X b L xs s H) : PreS s H (pC b L xs k) [.ref b, .int (I k)] :=
  ⟨fun _ U _ _ h => ⟨h.1, va_X.moved (u := U) (Vm.Alike.refl _) h.2⟩, fun U hU hW => ⟨rfl, by rw [hU]; exact va_X.moved hW.alike hX⟩⟩
theorem m_L_cell (l : Launch) (b L : Nat) (xs : Nat → Int32) (hL : L ≤ 260) (k : Nat) (hk : k ≤ 200) : Met l yL_cell (Cond.code yL_cell cL_cell 2 (some .int) :: ALL) ({ frames := 0, cells := 0, slots := 0, locals := 0 }) (pC b L xs (k : Int)) (qE (fun _ => True)) 0 0 (fun _ => False) := by
  refine Met.ofW (cc := cL_cell) (maxL := 2) (ret := some .int) (by decide) rfl ?_
  intro p e s m args below meth c s₁ B hml hv
  obtain ⟨rfl, hX⟩ := hv
  have hx := B.exec
  have hb := B.bytes
  have hrt := B.returns
  have hts0 := atoms_spec (ws := Cond.code yL_cell cL_cell 2 (some .int) :: ALL) B.pre
  have hts : ∀ w ∈ ALL, w.before _ s = true := fun w h => hts0 w (List.mem_cons_of_mem _ h)
  have hown : s.vm.findClass RL = some m.cls := findClass_of_methodNamed B.named
  have hlocks := B.notSynchronized
  have hl := lv_entry ([.ref b, .int (I (k : Int))]) (n := 2) (Nat.le_of_ble_eq_true rfl)
  rw [lg_entry_eq]
  generalize (lg_sl ([.ref b, .int (I (k : Int))]) ++ List.replicate (2 - (lg_sl ([.ref b, .int (I (k : Int))])).length) Slot.unset).toArray = ls at hl ⊢
  have hl : lv_has ls 2 [(0, .ref b), (1, .int (I (k : Int)))] := hl
  have hS : va_S (fun _ => False) s.heap s.heap [] := va_S.rf
  have hbl : b < s.heap.size := by
    obtain ⟨scr, h1, -⟩ := hX
    exact (Array.getElem?_eq_some_iff.mp h1).1
  refine lv_iload_n hx hb dL_cell_0 rfl (lv_lk hl rfl) ?_
  refine lv_aload_n hx hb dL_cell_1 rfl (lv_lk hl rfl) ?_
  refine va_slen hx hb hX hbl (fun h => h) hS dL_cell_2 ?_
  rw [I_ofNat]
  refine iv_icmp_ge (tgt := 12) hx hb dL_cell_3 (by decide) (by omega) (by omega) (fun h9 => ?_) (fun h9 => ?_)
  · refine lv_ldc hx hb hown (hts _ ki_L_7) dL_cell_12 ?_
    refine lv_iload_n hx hb dL_cell_14 rfl (lv_lk hl rfl) ?_
    refine iv_iconst hx hb dL_cell_15 ?_
    refine iv_iadd hx hb dL_cell_16 ?_
    refine lv_imul hx hb dL_cell_17 ?_
    refine lv_ldc hx hb hown (hts _ ki_L_8) dL_cell_18 ?_
    refine lv_iadd hx hb dL_cell_20 ?_
    exact W.iret hx hb hrt (fun t ht hW => ⟨_, trivial, rfl, ht⟩) hS.2.2 dL_cell_21 hlocks
  · refine lv_aload_n hx hb dL_cell_6 rfl (lv_lk hl rfl) ?_
    refine lv_iload_n hx hb dL_cell_7 rfl (lv_lk hl rfl) ?_
    refine va_sld hx hb hX hbl (fun h => h) hS (I_in (by omega) (by omega)) dL_cell_8 ?_
    refine lv_goto (tgt := 21) hx hb dL_cell_9 (by decide) ?_
    exact W.iret hx hb hrt (fun t ht hW => ⟨_, trivial, rfl, ht⟩) hS.2.2 dL_cell_21 hlocks
theorem m_L_low (l : Launch) (E : Env3) (x : Int32) (n : Nat) (hn : 1 ≤ n ∧ n ≤ 100000) : Met l yL_low (Cond.code yL_low cL_low 2 (some .int) :: ALL) ({ frames := 0, cells := 0, slots := 0, locals := 0 }) (pR [.int x, .int (I (n : Int))] E []) (qE (fun v => ∃ j : Nat, j < n ∧ v = I (j : Int))) 0 0 (fun _ => False) := by
  refine mk_met (by decide) rfl (Nat.le_of_ble_eq_true rfl) ?_
  intro p e s m args below meth c hx hb hrt hml hts hown hlocks hnm hP hK ls hl
  have hown : s.vm.findClass RL = some m.cls := hown
  have hl : lv_has ls 2 [(0, .int x), (1, .int (I (n : Int)))] := hl
  have hS : va_S (fun _ => False) s.heap s.heap [] := va_S.rf
  refine lv_iload_n hx hb dL_low_0 rfl (lv_lk hl rfl) ?_
  refine lv_ldc hx hb hown (hts _ ki_L_9) dL_low_1 ?_
  refine lv_iand hx hb dL_low_3 ?_
  obtain ⟨y, hy, e9⟩ := and_pos x
  rw [e9]
  refine lv_iload_n hx hb dL_low_4 rfl (lv_lk hl rfl) ?_
  refine iv_irem hx hb dL_low_5 ((y % n : Nat) : Int) (I_mod hy ⟨by omega, by omega⟩) (by omega) ?_
  exact W.iret hx hb hrt (fun t ht hW => ⟨_, ⟨y % n, Nat.mod_lt _ (by omega), rfl⟩, rfl, ht⟩) hS.2.2 dL_low_6 hlocks
set_option maxHeartbeats 4000000 in
set_option maxRecDepth 100000 in
theorem m_L_depth (l : Launch) (E : Env3) (a : Nat) (f : S) (T : Int) (st : S) (hI : IB T st) (hz : ∀ k, k < 6 → f (5 * k) = st (6 + 5 * k)) (i : Nat) (hi : i < 6) : Met l yL_depth (Cond.code yL_depth cL_depth 4 (some .int) :: ALL) ({ frames := 0, cells := 0, slots := 0, locals := 0 }) (pR [.int (I (i : Int)), .ref a] E [(a, iA E 30 f)]) (qS (some (.int (I (depthF 6 st i))))) 0 0 (fun _ => False) := by
  refine mk_met (by decide) rfl (Nat.le_of_ble_eq_true rfl) ?_
  intro p e s m args below meth c hx hb hrt hml hts hown hlocks hnm hP hK ls hl
  have hown : s.vm.findClass RL = some m.cls := hown
  have hl : lv_has ls 4 [(0, .int (I (i : Int))), (1, .ref a)] := hl
  have hS : va_S (fun _ => False) s.heap s.heap [] := va_S.rf
  refine iv_iconst hx hb dL_depth_0 ?_
  refine lv_istore_n (lv' := [(2, .int (I _)), (0, .int (I _)), (1, .ref _)]) hx hb dL_depth_1 rfl hl (by decide) rfl (fun ls hl => ?_)
  refine lv_iload_n hx hb dL_depth_2 rfl (lv_lk hl rfl) ?_
  refine lv_istore_n (lv' := [(3, .int (I _)), (2, .int (I _)), (0, .int (I _)), (1, .ref _)]) hx hb dL_depth_3 rfl hl (by decide) rfl (fun ls hl => ?_)
  have LOOP4 : ∀ (n9 k : Nat) (d : Int), (k < 6) → (k ≤ n9) → (d + depthF 6 st k = depthF 6 st i) → (d + n9 ≤ 6 ∧ 0 ≤ d) → ∀ (locs : List Loc) (ls : Array Slot), va_S (fun _ => False) s.heap s.heap locs → lv_has ls 4 [(2, .int (I d)), (3, .int (I (k : Int))), (0, .int (I (i : Int))), (1, .ref a)] → W p l e ({ frames := 0, cells := 0, slots := 0, locals := 0 }) s m args below meth c s.heap locs 0 0 (MQ below (qS (some (.int (I (depthF 6 st i))))) args s 0 0 (fun _ => False)) (F0 m 4 ls []) := by
    intro n9
    induction n9 with
    | zero =>
      intro  k d hk hk2 hd9 hd8 locs ls hS hl
      obtain rfl : k = 0 := by omega
      rw [depth_0] at hd9
      refine lv_iload_n hx hb dL_depth_4 rfl (lv_lk hl rfl) ?_
      refine iv_if_le (tgt := 20) hx hb dL_depth_5 (by decide) (by omega) (fun c_5 => ?_) (fun c_5 => by exfalso; omega)
      refine lv_iload_n hx hb dL_depth_20 rfl (lv_lk hl rfl) ?_
      refine iv_eq (depthF 6 st i) (by omega) ?_
      exact W.iret hx hb hrt (fun t ht hW => ⟨rfl, ht⟩) hS.2.2 dL_depth_21 hlocks
    | succ n9 ih =>
      intro  k d hk hk2 hd9 hd8 locs ls hS hl
      refine lv_iload_n hx hb dL_depth_4 rfl (lv_lk hl rfl) ?_
      refine iv_if_le (tgt := 20) hx hb dL_depth_5 (by decide) (by omega) (fun c_5 => ?_) (fun c_5 => ?_)
      · refine lv_iload_n hx hb dL_depth_20 rfl (lv_lk hl rfl) ?_
        refine iv_eq (depthF 6 st i) (by rw [show k = 0 by omega, depth_0] at hd9; omega) ?_
        exact W.iret hx hb hrt (fun t ht hW => ⟨rfl, ht⟩) hS.2.2 dL_depth_21 hlocks
      · refine iv_iinc (k := 0) hx hb dL_depth_8 hl rfl (d + 1) (by omega) (by decide) [(2, .int (I _)), (3, .int (I _)), (0, .int (I _)), (1, .ref _)] rfl (fun ls hl => ?_)
        refine lv_aload_n hx hb dL_depth_11 rfl (lv_lk hl rfl) ?_
        refine iv_iconst hx hb dL_depth_12 ?_
        refine lv_iload_n hx hb dL_depth_13 rfl (lv_lk hl rfl) ?_
        refine iv_imul hx hb dL_depth_14 ?_
        refine iv_iald hx hb hK hP 0 rfl (5 * k) (by omega) (by omega) dL_depth_15 ?_
        refine iv_eq (((par st k : Nat) : Int)) (by rw [hz k (by omega)]; exact (IB_par hI (by omega) (by omega)).1) ?_
        refine lv_istore_n (lv' := [(3, .int (I _)), (2, .int (I _)), (0, .int (I _)), (1, .ref _)]) hx hb dL_depth_16 rfl hl (by decide) rfl (fun ls hl => ?_)
        refine lv_goto (tgt := 4) hx hb dL_depth_17 (by decide) ?_
        exact ih (par st k) (d + 1) (by have := IB_par hI (z := k) (by omega) (by omega); omega) (by have := IB_par hI (z := k) (by omega) (by omega); omega) (by have := depth_s hI (z := k) (by omega) (by omega); omega) (by omega) locs ls hS (lv_sub hl [1, 0, 2, 3] rfl)
  exact LOOP4 5 i 0 hi (by omega) (by omega) (by omega) _ _ hS (lv_sub hl [1, 0, 2, 3] rfl)
set_option maxHeartbeats 4000000 in
set_option maxRecDepth 100000 in
theorem m_L_above (l : Launch) (E : Env3) (a : Nat) (f : S) (T : Int) (st : S) (hI : IB T st) (hz : ∀ k, k < 6 → f (5 * k) = st (6 + 5 * k)) (i t : Nat) (hi : i < 6) (ht6 : t ≤ 6) (hc9 : ∀ j, j < t → cs st i j ≠ 0) : Met l yL_above (Cond.code yL_above cL_above 5 (some .int) :: ALL) ({ frames := 0, cells := 0, slots := 0, locals := 0 }) (pR [.int (I (i : Int)), .int (I (t : Int)), .ref a] E [(a, iA E 30 f)]) (qS (some (.int (I ((cs st i t : Nat)))))) 0 0 (fun _ => False) := by
  refine mk_met (by decide) rfl (Nat.le_of_ble_eq_true rfl) ?_
  intro p e s m args below meth c hx hb hrt hml hts hown hlocks hnm hP hK ls hl
  have hown : s.vm.findClass RL = some m.cls := hown
  have hl : lv_has ls 5 [(0, .int (I (i : Int))), (1, .int (I (t : Int))), (2, .ref a)] := hl
  have hS : va_S (fun _ => False) s.heap s.heap [] := va_S.rf
  refine lv_iload_n hx hb dL_above_0 rfl (lv_lk hl rfl) ?_
  refine lv_istore_n (lv' := [(3, .int (I _)), (0, .int (I _)), (1, .int (I _)), (2, .ref _)]) hx hb dL_above_1 rfl hl (by decide) rfl (fun ls hl => ?_)
  refine iv_iconst hx hb dL_above_2 ?_
  refine lv_istore (lv' := [(4, .int (I _)), (3, .int (I _)), (0, .int (I _)), (1, .int (I _)), (2, .ref _)]) hx hb dL_above_3 hl (by decide) rfl (fun ls hl => ?_)
  have LOOP5 : ∀ (n9 n : Nat), (n + n9 = t) → ∀ (locs : List Loc) (ls : Array Slot), va_S (fun _ => False) s.heap s.heap locs → lv_has ls 5 [(3, .int (I ((cs st i n : Nat) : Int))), (4, .int (I (n : Int))), (0, .int (I (i : Int))), (1, .int (I (t : Int))), (2, .ref a)] → W p l e ({ frames := 0, cells := 0, slots := 0, locals := 0 }) s m args below meth c s.heap locs 0 0 (MQ below (qS (some (.int (I ((cs st i t : Nat)))))) args s 0 0 (fun _ => False)) (F0 m 5 ls []) := by
    intro n9
    induction n9 with
    | zero =>
      intro  n hn8 locs ls hS hl
      obtain rfl : n = t := by omega
      refine lv_iload hx hb dL_above_5 (lv_lk hl rfl) ?_
      refine lv_iload_n hx hb dL_above_7 rfl (lv_lk hl rfl) ?_
      refine iv_icmp_ge (tgt := 23) hx hb dL_above_8 (by decide) (by omega) (by omega) (fun c_8 => ?_) (fun c_8 => by exfalso; omega)
      refine lv_iload_n hx hb dL_above_23 rfl (lv_lk hl rfl) ?_
      exact W.iret hx hb hrt (fun t ht hW => ⟨rfl, ht⟩) hS.2.2 dL_above_24 hlocks
    | succ n9 ih =>
      intro  n hn8 locs ls hS hl
      have hlt := cs_lt hI (z := i) hi (i := n) (fun j hj => hc9 j (by omega))
      have hne := hc9 n (by omega)
      refine lv_iload hx hb dL_above_5 (lv_lk hl rfl) ?_
      refine lv_iload_n hx hb dL_above_7 rfl (lv_lk hl rfl) ?_
      refine iv_icmp_ge (tgt := 23) hx hb dL_above_8 (by decide) (by omega) (by omega) (fun c_8 => by exfalso; omega) (fun c_8 => ?_)
      refine lv_aload_n hx hb dL_above_11 rfl (lv_lk hl rfl) ?_
      refine iv_iconst hx hb dL_above_12 ?_
      refine lv_iload_n hx hb dL_above_13 rfl (lv_lk hl rfl) ?_
      refine iv_imul hx hb dL_above_14 ?_
      refine iv_iald hx hb hK hP 0 rfl (5 * cs st i n) (by omega) (by omega) dL_above_15 ?_
      refine iv_eq (((cs st i (n + 1) : Nat) : Int)) (by rw [hz _ hlt]; exact (IB_par hI (by omega) hlt).1) ?_
      refine lv_istore_n (lv' := [(3, .int (I _)), (4, .int (I _)), (0, .int (I _)), (1, .int (I _)), (2, .ref _)]) hx hb dL_above_16 rfl hl (by decide) rfl (fun ls hl => ?_)
      refine iv_iinc (k := 1) hx hb dL_above_17 hl rfl (((n + 1 : Nat) : Int)) (by omega) (by decide) [(4, .int (I _)), (3, .int (I _)), (0, .int (I _)), (1, .int (I _)), (2, .ref _)] rfl (fun ls hl => ?_)
      refine lv_goto (tgt := 5) hx hb dL_above_20 (by decide) ?_
      exact ih (n + 1) (by omega) locs ls hS (lv_sub hl [1, 0, 2, 3, 4] rfl)
  exact LOOP5 t 0 (by omega) _ _ hS (lv_sub hl [1, 0, 2, 3, 4] rfl)
set_option maxHeartbeats 4000000 in
set_option maxRecDepth 100000 in
theorem m_L_truth (l : Launch) (E : Env3) (a : Nat) (r : S) (T : Int) (st : S) (hI : IB T st) (hr9 : ∀ k, k < 36 → r k = eT (st (36 + 6 * k)) (st (36 + 6 * k + 1))) (i : Nat) (hi : i < 36) : Met l yL_truth (Cond.code yL_truth cL_truth 4 (some .int) :: ALL) ({ frames := 0, cells := 0, slots := 0, locals := 0 }) (pR [.int (I (i : Int)), .ref a] E [(a, iA E 36 r)]) (qS (some (.int (I (truthF 7 st i))))) 0 0 (fun _ => False) := by
  refine mk_met (by decide) rfl (Nat.le_of_ble_eq_true rfl) ?_
  intro p e s m args below meth c hx hb hrt hml hts hown hlocks hnm hP hK ls hl
  have hown : s.vm.findClass RL = some m.cls := hown
  have hl : lv_has ls 4 [(0, .int (I (i : Int))), (1, .ref a)] := hl
  have hS : va_S (fun _ => False) s.heap s.heap [] := va_S.rf
  refine lv_iload_n hx hb dL_truth_0 rfl (lv_lk hl rfl) ?_
  refine lv_istore_n (lv' := [(2, .int (I _)), (0, .int (I _)), (1, .ref _)]) hx hb dL_truth_1 rfl hl (by decide) rfl (fun ls hl => ?_)
  refine iv_iconst hx hb dL_truth_2 ?_
  refine lv_istore_n (lv' := [(3, .int (I _)), (2, .int (I _)), (0, .int (I _)), (1, .ref _)]) hx hb dL_truth_3 rfl hl (by decide) rfl (fun ls hl => ?_)
  have LOOP4 : ∀ (n9 n k : Nat), (n + n9 = 7) → (k < 36) → (truthF n9 st k = truthF 7 st i) → ∀ (locs : List Loc) (ls : Array Slot), va_S (fun _ => False) s.heap s.heap locs → lv_has ls 4 [(2, .int (I (k : Int))), (3, .int (I (n : Int))), (0, .int (I (i : Int))), (1, .ref a)] → W p l e ({ frames := 0, cells := 0, slots := 0, locals := 0 }) s m args below meth c s.heap locs 0 0 (MQ below (qS (some (.int (I (truthF 7 st i))))) args s 0 0 (fun _ => False)) (F0 m 4 ls []) := by
    intro n9
    induction n9 with
    | zero =>
      intro  n k hn8 hk he9 locs ls hS hl
      refine lv_iload_n hx hb dL_truth_4 rfl (lv_lk hl rfl) ?_
      refine iv_bipush hx hb dL_truth_5 (by decide +kernel) ?_
      refine iv_icmp_ge (tgt := 49) hx hb dL_truth_7 (by decide) (by omega) (by omega) (fun c_7 => ?_) (fun c_7 => by exfalso; omega)
      refine iv_bipush hx hb dL_truth_49 (by decide +kernel) ?_
      refine iv_eq (truthF 7 st i) (by rw [← he9]; rfl) ?_
      exact W.iret hx hb hrt (fun t ht hW => ⟨rfl, ht⟩) hS.2.2 dL_truth_51 hlocks
    | succ n9 ih =>
      intro  n k hn8 hk he9 locs ls hS hl
      have ht9 := eT_1 (hr9 k hk) hI hk
      have hb9 := (hI.2.2.2 k hk).1
      unfold triT at hb9
      refine lv_iload_n hx hb dL_truth_4 rfl (lv_lk hl rfl) ?_
      refine iv_bipush hx hb dL_truth_5 (by decide +kernel) ?_
      refine iv_icmp_ge (tgt := 49) hx hb dL_truth_7 (by decide) (by omega) (by omega) (fun c_7 => by exfalso; omega) (fun c_7 => ?_)
      refine lv_aload_n hx hb dL_truth_10 rfl (lv_lk hl rfl) ?_
      refine lv_iload_n hx hb dL_truth_11 rfl (lv_lk hl rfl) ?_
      refine iv_iald hx hb hK hP 0 rfl (k) (by omega) (by omega) dL_truth_12 ?_
      refine iv_if_ne (tgt := 18) hx hb dL_truth_13 (by decide) (by omega) (fun c_13 => ?_) (fun c_13 => ?_)
      · refine lv_aload_n hx hb dL_truth_18 rfl (lv_lk hl rfl) ?_
        refine lv_iload_n hx hb dL_truth_19 rfl (lv_lk hl rfl) ?_
        refine iv_iald hx hb hK hP 0 rfl (k) (by omega) (by omega) dL_truth_20 ?_
        refine iv_sipush hx hb dL_truth_21 (by decide +kernel) ?_
        refine iv_icmp_ge (tgt := 35) hx hb dL_truth_24 (by decide) (by omega) (by omega) (fun c_24 => ?_) (fun c_24 => ?_)
        · refine lv_aload_n hx hb dL_truth_35 rfl (lv_lk hl rfl) ?_
          refine lv_iload_n hx hb dL_truth_36 rfl (lv_lk hl rfl) ?_
          refine iv_iald hx hb hK hP 0 rfl (k) (by omega) (by omega) dL_truth_37 ?_
          refine iv_sipush hx hb dL_truth_38 (by decide +kernel) ?_
          refine iv_isub hx hb dL_truth_41 ?_
          have hn9 := (IB_nextT hI hk (by omega : st (36 + 6 * k) = 2))
          refine iv_eq (((st (36 + 6 * k + 1)).toNat : Int)) (by omega) ?_
          refine lv_istore_n (lv' := [(2, .int (I _)), (3, .int (I _)), (0, .int (I _)), (1, .ref _)]) hx hb dL_truth_42 rfl hl (by decide) rfl (fun ls hl => ?_)
          refine iv_iinc (k := 1) hx hb dL_truth_43 hl rfl (((n + 1 : Nat) : Int)) (by omega) (by decide) [(3, .int (I _)), (2, .int (I _)), (0, .int (I _)), (1, .ref _)] rfl (fun ls hl => ?_)
          refine lv_goto (tgt := 4) hx hb dL_truth_46 (by decide) ?_
          exact ih (n + 1) (st (36 + 6 * k + 1)).toNat (by omega) hn9.2 (by rw [← he9, truth_s (by omega)]) locs ls hS (lv_sub hl [1, 0, 2, 3] rfl)
        · refine lv_aload_n hx hb dL_truth_27 rfl (lv_lk hl rfl) ?_
          refine lv_iload_n hx hb dL_truth_28 rfl (lv_lk hl rfl) ?_
          refine iv_iald hx hb hK hP 0 rfl (k) (by omega) (by omega) dL_truth_29 ?_
          refine iv_sipush hx hb dL_truth_30 (by decide +kernel) ?_
          refine iv_isub hx hb dL_truth_33 ?_
          refine iv_eq (truthF 7 st i) (by rw [← he9, truth_n (by omega)]; omega) ?_
          exact W.iret hx hb hrt (fun t ht hW => ⟨rfl, ht⟩) hS.2.2 dL_truth_34 hlocks
      · refine iv_iconst hx hb dL_truth_16 ?_
        refine iv_eq (truthF 7 st i) (by rw [← he9, truth_n (by omega)]; omega) ?_
        exact W.iret hx hb hrt (fun t ht hW => ⟨rfl, ht⟩) hS.2.2 dL_truth_17 hlocks
  exact LOOP4 7 0 i (by omega) hi rfl _ _ hS (lv_sub hl [1, 0, 2, 3] rfl)
set_option maxHeartbeats 4000000 in
set_option maxRecDepth 100000 in
theorem m_L_copy (l : Launch) (E : Env3) (a b n : Nat) (f g : S) (hab : a ≠ b) (hn : n ≤ 2000000) : Met l yL_copy (Cond.code yL_copy cL_copy 3 none :: ALL) ({ frames := 0, cells := 0, slots := 0, locals := 0 }) (pR [.ref a, .ref b] E [(a, iA E n f), (b, iA E n g)]) (qW none E [(a, iA E n f), (b, iA E n g)] [(a, iA E n f), (b, iA E n (cpN f g n))]) 0 0 (adIn [(a, iA E n f), (b, iA E n g)]) := by
  refine mk_met (by decide) rfl (Nat.le_of_ble_eq_true rfl) ?_
  intro p e s m args below meth c hx hb hrt hml hts hown hlocks hnm hP hK ls hl
  have hown : s.vm.findClass RL = some m.cls := hown
  have hl : lv_has ls 3 [(0, .ref a), (1, .ref b)] := hl
  have hD : va_D (adIn [(a, iA E n f), (b, iA E n g)]) [(a, iA E n f), (b, iA E n g)] := D_2 hab
  have hS : va_S (adIn [(a, iA E n f), (b, iA E n g)]) s.heap s.heap [] := va_S.rf
  have hP : va_P E.1 vwCl [(a, iA E n f), (b, iA E n (cpN f g 0))] s.heap := by rw [cpN_0]; exact hP
  refine iv_iconst hx hb dL_copy_0 ?_
  refine lv_istore_n (lv' := [(2, .int (I _)), (0, .ref _), (1, .ref _)]) hx hb dL_copy_1 rfl hl (by decide) rfl (fun ls hl => ?_)
  have LOOP2 : ∀ (n9 i : Nat), (i + n9 = n) → ∀ (H : Heap) (locs : List Loc) (ls : Array Slot), va_P E.1 vwCl [(a, iA E n f), (b, iA E n (cpN f g i))] H → va_S (adIn [(a, iA E n f), (b, iA E n g)]) s.heap H locs → lv_has ls 3 [(2, .int (I (i : Int))), (0, .ref a), (1, .ref b)] → W p l e ({ frames := 0, cells := 0, slots := 0, locals := 0 }) s m args below meth c H locs 0 0 (MQ below (qW none E [(a, iA E n f), (b, iA E n g)] [(a, iA E n f), (b, iA E n (cpN f g n))]) args s 0 0 (adIn [(a, iA E n f), (b, iA E n g)])) (F0 m 2 ls []) := by
    intro n9
    induction n9 with
    | zero =>
      intro  i hi8 H locs ls hP hS hl
      obtain rfl : i = n := by omega
      refine lv_iload_n hx hb dL_copy_2 rfl (lv_lk hl rfl) ?_
      refine lv_aload_n hx hb dL_copy_3 rfl (lv_lk hl rfl) ?_
      refine va_alen hx hb hK.1 hP 0 0 rfl rfl (v := I (i : Int)) (I_ofNat _) dL_copy_4 ?_
      refine iv_icmp_ge (tgt := 20) hx hb dL_copy_5 (by decide) (by omega) (by omega) (fun c_5 => ?_) (fun c_5 => by exfalso; omega)
      exact W.vret hx hb hrt (fun t ht hW => ⟨rfl, by rw [ht]; exact hP, hS.F ht⟩) hS.2.2 dL_copy_20 hlocks
    | succ n9 ih =>
      intro  i hi8 H locs ls hP hS hl
      refine lv_iload_n hx hb dL_copy_2 rfl (lv_lk hl rfl) ?_
      refine lv_aload_n hx hb dL_copy_3 rfl (lv_lk hl rfl) ?_
      refine va_alen hx hb hK.1 hP 0 0 rfl rfl (v := I (n : Int)) (I_ofNat _) dL_copy_4 ?_
      refine iv_icmp_ge (tgt := 20) hx hb dL_copy_5 (by decide) (by omega) (by omega) (fun c_5 => by exfalso; omega) (fun c_5 => ?_)
      refine lv_aload_n hx hb dL_copy_8 rfl (lv_lk hl rfl) ?_
      refine lv_iload_n hx hb dL_copy_9 rfl (lv_lk hl rfl) ?_
      refine lv_aload_n hx hb dL_copy_10 rfl (lv_lk hl rfl) ?_
      refine lv_iload_n hx hb dL_copy_11 rfl (lv_lk hl rfl) ?_
      refine iv_iald hx hb hK hP 0 rfl (i) (by omega) (by omega) dL_copy_12 ?_
      refine iv_iast hx hb hK hP (dm hD rfl) hS 1 rfl (i) (by omega) (by omega) dL_copy_13 [(a, iA E n f), (b, iA E n (cpN f g (i + 1)))] (by rw [cpN_s]; rfl) (fun H locs hP hS => ?_)
      refine iv_iinc (k := 0) hx hb dL_copy_14 hl rfl (((i + 1 : Nat) : Int)) (by omega) (by decide) [(2, .int (I _)), (0, .ref _), (1, .ref _)] rfl (fun ls hl => ?_)
      refine lv_goto (tgt := 2) hx hb dL_copy_17 (by decide) ?_
      exact ih (i + 1) (by omega) H locs ls hP hS (lv_sub hl [0, 1, 2] rfl)
  exact LOOP2 n 0 (by omega) _ _ _ hP hS (lv_sub hl [0, 1, 2] rfl)
