/-! acts keep what is kept; the saved states beside the history -/
theorem IT_zone {st : S} (h : IT st) (z k : Nat) (v : Int) (hz : z < 6) (hk : k < 3) : IT (up st (6 + 5 * z + k) v) := IT_free h _ _ (by omega)
theorem IT_tru {st : S} (h : IT st) (r : Nat) (k v u : Int) : IT (up (up (up st (36 + 6 * r) k) (36 + 6 * r + 1) v) (36 + 6 * r + 2) u) := IT_free (IT_free (IT_free h _ _ (by omega)) _ _ (by omega)) _ _ (by omega)
theorem recN_le {n : Nat} (hn : n ≤ 6) : recN n ≤ 6 := by unfold recN; split <;> omega
/-- what the saved states keep -/
def svOk (sv : Nat → S) (n : Nat) : Prop := ∀ k, k < n → IB 9999 (sv k) ∧ IT (sv k)
theorem svOk_s {sv : Nat → S} {st : S} {n : Nat} (h : svOk sv n) (hb : IB 9999 st) (hi : IT st) (hn : n ≤ 6) : svOk (sN sv st n) (recN n) := by
  intro k hk
  unfold recN at hk
  unfold sN
  by_cases e : n = 6
  · rw [if_pos e] at hk ⊢
    split
    · exact ⟨hb, hi⟩
    · exact h (k + 1) (by omega)
  · rw [if_neg e] at hk ⊢
    by_cases e2 : k = n
    · subst e2; rw [up_eq]; exact ⟨hb, hi⟩
    · rw [up_ne _ _ e2]; exact h k (by omega)
