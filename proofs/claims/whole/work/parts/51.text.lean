/-! the text beside both -/
theorem txB_0 (tx : S) : txB 0 tx := ⟨by decide, fun j hj => absurd hj (Nat.not_lt_zero j)⟩
theorem txB_add {N : Nat} {tx : S} {x9 : Int} (h : txB N tx) (hN : N < 60) (hx : 33 ≤ x9 ∧ x9 ≤ 126) : txB (N + 1) (up tx N x9) := by
  refine ⟨by omega, fun j hj => ?_⟩
  by_cases e : j = N
  · subst e; rw [up_eq]; exact hx
  · rw [up_ne _ _ e]; exact h.2 j (by omega)
theorem pm_from : ∀ (n : Nat) (tx : S) (k : Nat) (sg nm : Int), -1 ≤ pmF n tx k sg nm ∧ pmF n tx k sg nm ≤ (k : Int) + n
  | 0, tx, k, sg, nm => by
    rw [pmF]
    split <;> omega
  | n + 1, tx, k, sg, nm => by
    have h1 := pm_from n tx (k + 1) (tx k) (-1)
    have h2 := pm_from n tx (k + 1) (-1) (-1)
    have h3 := pm_from n tx (k + 1) sg (wdg sg nm (tx k))
    rw [pmF]
    split
    · split <;> omega
    · split
      · omega
      · split <;> omega
theorem pm_text {N : Nat} {tx : S} (h : txB N tx) : -1 ≤ pmF N tx 0 (-1) (-1) ∧ pmF N tx 0 (-1) (-1) ≤ 100 := by
  have h1 := pm_from N tx 0 (-1) (-1)
  have h2 := h.1
  omega
