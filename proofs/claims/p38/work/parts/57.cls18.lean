/-! the law's wrappers, told of predicates: where the face answers, and where it throws; written by cls18.py -/
theorem ZX.narrow {A B : Nat → Prop} {U : State} {H : Heap} (h : ZX A U H) (hAB : ∀ q, B q → A q) : ZX B U H := ⟨h.1.narrow hAB, h.2.narrow hAB⟩
theorem KX.word {s : State} {args : Array Value} (h : KX s) {w : Cond} (hw : w ∈ xW) : w.before args s = true :=
  va_tabs (by have := List.all_eq_true.mp xW_ok w hw; simp only [Bool.and_eq_true] at this; exact this.1) rfl (h.1 w hw)
theorem xc_IO : Cond.castable xIO xIO ∈ xW := of_decide_eq_true (by decide +kernel)
theorem xc_IA : Cond.castable xIA xIA ∈ xW := of_decide_eq_true (by decide +kernel)
theorem xc_IS : Cond.castable xIS xIS ∈ xW := of_decide_eq_true (by decide +kernel)
