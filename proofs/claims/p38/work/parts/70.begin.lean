/-! what the tables and the Statement give at the law's entry -/
theorem bg_tbl {w : Cond} (h : decide (w ∈ lw_tbl) = true) : w ∈ lw_tbl := of_decide_eq_true h
abbrev bgC : Jvm.Cond := Jvm.Cond.and given_1 narrow_1
theorem bg_sr : xS.all (fun q => decide (Cond.stringRef RX5 q.1 q.2 ∈ lw_tbl)) = true := by decide +kernel
theorem bg_ex : xS.all (fun q => decide (Cond.exactly (.string RX5 q.1) "java/lang/String" ∈ flatC bgC)) = true := by decide +kernel
theorem bg_nc : xNc.all (fun q => decide (Cond.not (.castable q.1 q.2) ∈ flatC bgC)) = true := by decide +kernel
theorem bg_u : Cond.isRef (.static Bundle.tN "UNASSIGNED_STACK" Bundle.steD) ∈ flatC bgC := of_decide_eq_true (by decide +kernel)
theorem bg_n : Cond.isRef (.static Bundle.tN "SUPPRESSED_SENTINEL" Bundle.listD) ∈ flatC bgC := of_decide_eq_true (by decide +kernel)
theorem bg_lu : Cond.laysStatic Bundle.tN "UNASSIGNED_STACK" Bundle.steD ∈ lw_tbl := of_decide_eq_true (by decide +kernel)
theorem bg_ln : Cond.laysStatic Bundle.tN "SUPPRESSED_SENTINEL" Bundle.listD ∈ lw_tbl := of_decide_eq_true (by decide +kernel)
theorem bg_nw : nwL.all (fun w => decide (w ∈ lw_tbl) && (nwB w && w.onTables)) = true := by decide +kernel
theorem bg_ao : Cond.arrayOver (.object RX3) ∈ lw_tbl := of_decide_eq_true (by decide +kernel)
theorem bg_KX {s : State} {args : Array Value} (hts : ∀ w ∈ lw_tbl, w.before args s = true) (hg : bgC.before args s = true) : KX s := by
  have hf := flat_of_before _ hg
  refine ⟨fun w hw => ?_, fun q hq => ?_, fun q hq => ?_⟩
  · have h1 := List.all_eq_true.mp xW_ok w hw
    simp only [Bool.and_eq_true] at h1
    exact va_tabs h1.1 rfl (hts w (of_decide_eq_true (List.all_eq_true.mp xW_tbl w hw)))
  · have h1 := hts _ (of_decide_eq_true (List.all_eq_true.mp bg_sr q hq))
    have h2 := hf _ (of_decide_eq_true (List.all_eq_true.mp bg_ex q hq))
    obtain ⟨a, -, -, -, h3, -⟩ := Cond.exactly_spec (args := args) (first := s) (o := none) (s := s) (idx := []) h2
    exact ⟨a, vk_R.of h1 h3⟩
  · exact va_Nc.of (hf _ (of_decide_eq_true (List.all_eq_true.mp bg_nc q hq)))
theorem bg_ZX {s : State} {args : Array Value} (hts : ∀ w ∈ lw_tbl, w.before args s = true) (hg : bgC.before args s = true) : ZX (fun q => s.heap.size ≤ q) s s.heap := by
  have hf := flat_of_before _ hg
  exact ⟨vx_Zqof (hts _ bg_lu) (hts _ (qAL it_Throwable)) (hf _ bg_u) (fun a h => Nat.not_le.mpr h), vx_Zqof (hts _ bg_ln) (hts _ (qAL it_Throwable)) (hf _ bg_n) (fun a h => Nat.not_le.mpr h)⟩
theorem bg_arr {s : State} {args : Array Value} {ty : FieldType} (h : (Cond.arrayClass ty).before args s = true) : ∃ cA, ArrOfT s cA ty ∧ s.vm.findClass ("[" ++ ty.toString) = some cA := by
  obtain ⟨cA, k, comp, h1, h2, h3⟩ := Cond.arrayClass_spec (args := args) (first := s) (o := none) (s := s) (idx := []) h
  exact ⟨cA, fun n z => ⟨fun k h => (by cases h), k, h2, comp, h3⟩, h1⟩
theorem bg_KB {s : State} {args : Array Value} (hts : ∀ w ∈ lw_tbl, w.before args s = true) : ∃ E : Env3, KB E s := by
  have ha : ∀ w ∈ ALL, w.before args s = true := fun w h => hts w (qAL h)
  obtain ⟨c0, i0, k0⟩ := u_known (C := RX0) (T := TX0) ha inX0 (ha _ ia_X0)
  obtain ⟨c1, i1, k1⟩ := u_known (C := RX1) (T := TX1) ha inX1 (ha _ ia_X1)
  obtain ⟨c2, i2, k2⟩ := u_known (C := RX2) (T := TX2) ha inX2 (ha _ ia_X2)
  obtain ⟨c3, i3, k3⟩ := u_known (C := RX3) (T := TX3) ha inX3 (ha _ ia_X3)
  obtain ⟨c4, i4, k4⟩ := u_known (C := RX4) (T := TX4) ha inX4 (ha _ ia_X4)
  obtain ⟨c5, i5, k5⟩ := u_known (C := RX5) (T := TX5) ha inX5 (ha _ ia_X5)
  obtain ⟨aI, hI1, hI2⟩ := bg_arr (ha _ ac_int)
  obtain ⟨comp, aO, kO, g1, -, g2, g3, g4⟩ := Cond.arrayOver_spec (args := args) (first := s) (o := none) (s := s) (idx := []) (n := RX3) (hts _ bg_ao)
  refine ⟨((fun k => [c0, c1, c2, c3, c4, c5].getD k 0, fun k => [i0, i1, i2, i3, i4, i5].getD k i0), aI, aO, aI), ⟨?_, ?_⟩, ?_, va_AO.of (hts _ bg_ao)⟩
  · intro k q hq
    rcases k with _ | _ | _ | _ | _ | _ | k
    · cases hq; exact k0
    · cases hq; exact k1
    · cases hq; exact k2
    · cases hq; exact k3
    · cases hq; exact k4
    · cases hq; exact k5
    · simp [vwCl] at hq
  · intro k q hq
    rcases k with _ | _ | k
    · cases hq; exact ⟨hI1, hI2⟩
    · cases hq; exact ⟨fun n z => ⟨fun k h => (by cases h), kO, g2, comp, g3⟩, kO, comp, g2, g3, g1, g4⟩
    · simp [tyL] at hq
  · intro w hw
    have h1 := List.all_eq_true.mp bg_nw w hw
    simp only [Bool.and_eq_true, decide_eq_true_eq] at h1
    exact ⟨h1.2.1, va_Nw.of h1.2.2 (hts w h1.1)⟩
