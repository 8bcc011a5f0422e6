/-! a new array of states -/
theorem obj_cls {E : Env3} {s : State} {cA : ClassId} (hK : KB E s) (h : va_RA s cA (.object RX3)) : cA = E.2.2.1 := by
  obtain ⟨_, _, _, _, _, h2⟩ := h
  obtain ⟨_, _, _, _, _, h1⟩ := (hK.1.2 1 _ rfl).2
  exact Option.some.inj (h2.symm.trans h1)
theorem q_app (L : List Nat) (v : Nat) : (fun j => (L ++ [v])[j]?) = va_up (fun j => L[j]?) L.length (some v) := by
  funext j
  unfold va_up
  by_cases h : j = L.length
  · subst h; rw [if_pos rfl, List.getElem?_append_right (Nat.le_refl _), Nat.sub_self]; rfl
  · rw [if_neg h]
    by_cases h2 : j < L.length
    · rw [List.getElem?_append_left h2]
    · rw [List.getElem?_eq_none (by rw [List.length_append]; show L.length + 1 ≤ j; omega)]
      exact (List.getElem?_eq_none (Nat.not_lt.mp h2)).symm
theorem iv_newq {p : Program} {l : Launch} {e : Jvm.Env} {R : Room} {s : State} {m : MethodId} {args : Array Value} {below : List Frame} {meth : Method} {c : Code} {H : Heap} {locs : List Loc} {cells slots : Nat} {Q : State → Prop}
    {cc : ByteArray} {pc : Nat} {ls : Array Slot} {rest : List Value} {E : Env3} {A : Nat → Prop} {H0 : Heap} {ws : va_W} (hx : p.tables.exec = Jvm.exec) (hb : c.code = cc) {own : String} {index : Nat} (hown : s.vm.findClass own = some m.cls) (hcl : (Cond.classLink own index RX3).before args s = true) (hK : KB E s) (hP : va_P E.1 vwCl ws H) (hD : va_D A ws) (hS : va_S A H0 H locs) (hA : ∀ q, H0.size ≤ q → A q)
    {n : Int} (N : Nat) (hn : n = (N : Int)) (hN : N ≤ 100000) (hcells : cells + 1 ≤ R.cells) (hslots : slots + N ≤ R.slots) (hdg : decode cc pc = .ok (.anewarray index, 3))
    (kk : ∀ (q : Nat) (H1 : Heap), va_P E.1 vwCl (ws ++ [(q, rA E N (fun j => ([] : List Nat)[j]?))]) H1 → va_D A (ws ++ [(q, rA E N (fun j => ([] : List Nat)[j]?))]) → va_S A H0 H1 locs → W p l e R s m args below meth c H1 locs (cells + 1) (slots + N) Q (F0 m (pc + 3) ls (.ref q :: rest))) : W p l e R s m args below meth c H locs cells slots Q (F0 m pc ls (.int (I n) :: rest)) := by
  subst hn
  refine va_newq (C := RX3) (N' := N) hx hb hown hcl hK.2.2 hK.1 hP hD hS hA (I_nneg N (by omega)) (I_nat (by omega)) (by omega) hcells hslots hdg ?_
  intro q cA H1 hK1 hP1 hD1 hS1
  have hc := obj_cls hK (hK1.2 (tyL E).length (cA, .object RX3) (by rw [List.getElem?_append_right (Nat.le_refl _), Nat.sub_self]; rfl)).2
  subst hc
  have e : (fun _ : Nat => (none : Option Nat)) = (fun j => ([] : List Nat)[j]?) := by funext j; rfl
  rw [e] at hP1 hD1
  exact kk q H1 hP1 hD1 hS1
