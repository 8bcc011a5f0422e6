/-! what is made anew -/
/-- an answer; the cells of ws have become some of w1, whose others are new -/
def qN {σ : Type} (v : Option Value) (E : Env3) (ws : va_W) (w1 : σ → va_W) : Array Value → State → Outcome → State → Prop := fun _ st oc t => oc = .returned v ∧ (∃ g : σ, va_P E.1 vwCl (w1 g) t.heap ∧ va_D (fun q => adIn ws q ∨ st.heap.size ≤ q) (w1 g)) ∧ va_F (adIn ws) st t
section NW
variable {p : Program} {l : Launch} {e : Jvm.Env} {R : Room} {s : State} {m : MethodId} {args : Array Value} {below : List Frame} {meth : Method} {c : Code} {H : Heap} {locs : List Loc} {cells slots : Nat} {Q : State → Prop}
variable {cc : ByteArray} {pc : Nat} {ls : Array Slot} {rest : List Value} {E : Env3} {A : Nat → Prop} {H0 : Heap} {ws : va_W}
/-- what is written into new cells needs no telling -/
theorem W_old {g : JFrame} (kk : W p l e R s m args below meth c H (locs.filter (fun q => decide (q.base < s.heap.size))) cells slots Q g) : W p l e R s m args below meth c H locs cells slots Q g :=
  fun T hT X => kk T hT { X with same := X.same.weaken (fun y hy hlt => List.mem_filter.mpr ⟨hy, decide_eq_true hlt⟩) (Nat.le_refl _) (Nat.le_refl _) }
theorem old_in {w0 : va_W} (hS : va_S (fun q => adIn w0 q ∨ s.heap.size ≤ q) H0 H locs) : ∀ q ∈ locs.filter (fun q => decide (q.base < s.heap.size)), adIn w0 q.base := by
  intro q hq
  obtain ⟨h1, h2⟩ := List.mem_filter.mp hq
  rcases hS.2.2 q h1 with h | h
  · exact h
  · exact absurd (of_decide_eq_true h2) (Nat.not_lt.mpr h)
theorem new_F {w0 : va_W} {t : State} (hS : va_S (fun q => adIn w0 q ∨ s.heap.size ≤ q) s.heap H locs) (ht : t.heap = H) : va_F (adIn w0) s t :=
  ⟨by rw [ht]; exact hS.1, fun q h1 h2 => by rw [ht]; exact hS.2.1 q h1 (fun h => h.elim h2 (fun h => absurd h1 (Nat.not_lt.mpr h)))⟩
theorem int_cls {cA : ClassId} (hK : KB E s) (h : va_RA s cA .int) : cA = E.2.1 := by
  have h1 : s.vm.findClass ("[" ++ FieldType.int.toString) = some E.2.1 := (hK.1.2 0 _ rfl).2
  have h2 : s.vm.findClass ("[" ++ FieldType.int.toString) = some cA := h
  exact Option.some.inj (h2.symm.trans h1)
theorem iv_newa (hx : p.tables.exec = Jvm.exec) (hb : c.code = cc) (harr : (Cond.arrayClass .int).before args s = true) (hK : KB E s) (hP : va_P E.1 vwCl ws H) (hD : va_D A ws) (hS : va_S A H0 H locs) (hA : ∀ q, H0.size ≤ q → A q)
    {n : Int} (N : Nat) (hn : n = (N : Int)) (hN : N ≤ 100000) (hcells : cells + 1 ≤ R.cells) (hslots : slots + N ≤ R.slots) (hdg : decode cc pc = .ok (.newarray .int, 2))
    (kk : ∀ (q : Nat) (H1 : Heap), va_P E.1 vwCl (ws ++ [(q, iA E N (fun _ => 0))]) H1 → va_D A (ws ++ [(q, iA E N (fun _ => 0))]) → va_S A H0 H1 locs → W p l e R s m args below meth c H1 locs (cells + 1) (slots + N) Q (F0 m (pc + 2) ls (.ref q :: rest))) : W p l e R s m args below meth c H locs cells slots Q (F0 m pc ls (.int (I n) :: rest)) := by
  subst hn
  refine va_newa (atype := .int) (ty := .int) (a0 := (N, .inl (fun _ => I 0))) hx hb harr rfl hK.1 hP hD hS hA (fun cA => by rw [vp_cell_i]; rfl) (I_nneg N (by omega)) (I_nat (by omega)) (by show N * 4 ≤ 536870912; omega) hcells hslots hdg ?_
  intro q cA H1 hK1 hP1 hD1 hS1
  have hc := int_cls hK (hK1.2 (tyL E).length (cA, .int) (by rw [List.getElem?_append_right (Nat.le_refl _), Nat.sub_self]; rfl)).2
  subst hc
  exact kk q H1 hP1 hD1 hS1
end NW
