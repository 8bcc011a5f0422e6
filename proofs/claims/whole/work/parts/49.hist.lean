/-! acts keep what is kept; the saved states beside the history -/
theorem IT_zone {st : S} (h : IT st) (z k : Nat) (v : Int) (hz : z < 6) (hk : k < 3) : IT (up st (6 + 5 * z + k) v) := IT_free h _ _ (by omega)
theorem IT_tru {st : S} (h : IT st) (r : Nat) (k v u : Int) : IT (up (up (up st (36 + 6 * r) k) (36 + 6 * r + 1) v) (36 + 6 * r + 2) u) := IT_free (IT_free (IT_free h _ _ (by omega)) _ _ (by omega)) _ _ (by omega)
theorem run_keep : ∀ (L : List (Int × Int)) (st : S), (∀ a ∈ L, actOk a) → IB 9999 st → IT st → IB 9999 (runA L st).1 ∧ IT (runA L st).1
  | [], _, _, h, hi => ⟨h, hi⟩
  | a :: L, st, ha, h, hi => by
    rw [runA]
    split
    · rename_i c
      have h0 := h.1
      have key : IB 9999 (actSt st a) ∧ IT (actSt st a) := by
        rw [actSt]
        rcases ha a List.mem_cons_self with ⟨h1, h2, h3⟩ | ⟨h1, h2, h3⟩
        · rw [if_pos h1]
          exact ⟨IB_solve1 h (by omega), IT_solve1 h hi (by omega)⟩
        · rw [if_neg (by omega)]
          have c2 : st 0 + a.2 ≤ 9999 := by rcases c with c | c; (· omega); (· exact c)
          exact ⟨IB_passes2 h a.2 (by omega) 9999 (by omega), IT_passes hi (by omega) (by omega)⟩
      exact run_keep L (actSt st a) (fun b hb => ha b (List.mem_cons_of_mem _ hb)) key.1 key.2
    · exact ⟨h, hi⟩
/-- the history's parts are the saved states -/
def histR (hi : S) (sv : Nat → S) (n : Nat) : Prop := ∀ k, k < n → ∀ j, j < 252 → hi (252 * k + j) = sv k j
theorem histR_0 (hi : S) (sv : Nat → S) : histR hi sv 0 := fun _ h => absurd h (Nat.not_lt_zero _)
theorem histR_le {hi : S} {sv : Nat → S} {n m : Nat} (h : histR hi sv n) (hm : m ≤ n) : histR hi sv m := fun k hk => h k (Nat.lt_of_lt_of_le hk hm)
theorem histR_lt {hi st : S} {sv : Nat → S} {n : Nat} (h : histR hi sv n) (hn : n < 6) : histR (recH st hi n) (sN sv st n) (recN n) := by
  have e1 : recH st hi n = layN st 0 hi (252 * n) 252 := by unfold recH; rw [if_neg (by omega)]
  have e2 : recN n = n + 1 := by unfold recN; rw [if_neg (by omega)]
  have e3 : sN sv st n = up sv n st := by unfold sN; rw [if_neg (by omega)]
  rw [e1, e2, e3]
  intro k hk j hj
  by_cases e : k = n
  · subst e
    rw [up_eq]
    unfold layN
    rw [if_pos (by omega)]
    congr 1
    omega
  · rw [up_ne _ _ e]
    unfold layN
    rw [if_neg (by omega)]
    exact h k (by omega) j hj
