/-! the class: the text; written by cls8.py -/
/-- what is kept of the acts that were read -/
def actsR (L : List (Int × Int)) (k : Nat) (fs fn : S) : Prop := L.length = k ∧ ∀ j, j < k → L[j]? = some (fs j, fn j)
theorem actsR_s {L : List (Int × Int)} {k : Nat} {fs fn : S} {a b : Int} (h : actsR L k fs fn) : actsR (L ++ [(a, b)]) (k + 1) (up fs k a) (up fn k b) := by
  obtain ⟨h1, h2⟩ := h
  refine ⟨by rw [List.length_append, h1]; rfl, fun j hj => ?_⟩
  by_cases e : j = k
  · subst e; rw [up_eq, up_eq, List.getElem?_append_right (by omega), show j - L.length = 0 by omega]; rfl
  · rw [up_ne _ _ e, up_ne _ _ e, List.getElem?_append_left (by omega)]; exact h2 j (by omega)
theorem wdg_rng (sg nm c : Int) : -1 ≤ wdg sg nm c ∧ wdg sg nm c ≤ 99 := by unfold wdg; (repeat split) <;> omega
