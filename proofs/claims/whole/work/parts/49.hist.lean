/-! acts keep what is kept; the saved states beside the history -/
theorem IT_zone {st : S} (h : IT st) (z k : Nat) (v : Int) (hz : z < 6) (hk : k < 3) : IT (up st (6 + 5 * z + k) v) := IT_free h _ _ (by omega)
theorem IT_tru {st : S} (h : IT st) (r : Nat) (k v u : Int) : IT (up (up (up st (36 + 6 * r) k) (36 + 6 * r + 1) v) (36 + 6 * r + 2) u) := IT_free (IT_free (IT_free h _ _ (by omega)) _ _ (by omega)) _ _ (by omega)
theorem run_keep : ∀ (L : List (Int × Int)) (st : S), (∀ a ∈ L, actOk a) → IB 9999 st → IT st → IB 9999 (runA L st).1 ∧ IT (runA L st).1
  | [], _, _, h, hi => ⟨h, hi⟩
  | a :: L, st, ha, h, hi => by
    rw [runA]
    split
    · rename_i c
      have h0 := h.1
      have key : IB 9999 (actSt st a) ∧ IT (actSt st a) := by
        rw [actSt]
        rcases ha a List.mem_cons_self with ⟨h1, h2, h3⟩ | ⟨h1, h2, h3⟩
        · rw [if_pos h1]
          exact ⟨IB_solve1 h (by omega), IT_solve1 h hi (by omega)⟩
        · rw [if_neg (by omega)]
          have c2 : st 0 + a.2 ≤ 9999 := by rcases c with c | c; (· omega); (· exact c)
          exact ⟨IB_passes2 h a.2 (by omega) 9999 (by omega), IT_passes hi (by omega) (by omega)⟩
      exact run_keep L (actSt st a) (fun b hb => ha b (List.mem_cons_of_mem _ hb)) key.1 key.2
    · exact ⟨h, hi⟩
/-- the history's parts are the saved states -/
def histR (hi : S) (sv : Nat → S) (n : Nat) : Prop := ∀ k, k < n → ∀ j, j < 252 → hi (252 * k + j) = sv k j
theorem histR_0 (hi : S) (sv : Nat → S) : histR hi sv 0 := fun _ h => absurd h (Nat.not_lt_zero _)
theorem histR_le {hi : S} {sv : Nat → S} {n m : Nat} (h : histR hi sv n) (hm : m ≤ n) : histR hi sv m := fun k hk => h k (Nat.lt_of_lt_of_le hk hm)
theorem histR_lt {hi st : S} {sv : Nat → S} {n : Nat} (h : histR hi sv n) (hn : n < 6) : histR (recH st hi n) (sN sv st n) (recN n) := by
  have e1 : recH st hi n = layN st 0 hi (252 * n) 252 := by unfold recH; rw [if_neg (by omega)]
  have e2 : recN n = n + 1 := by unfold recN; rw [if_neg (by omega)]
  have e3 : sN sv st n = up sv n st := by unfold sN; rw [if_neg (by omega)]
  rw [e1, e2, e3]
  intro k hk j hj
  by_cases e : k = n
  · subst e
    rw [up_eq]
    unfold layN
    rw [if_pos (by omega)]
    congr 1
    omega
  · rw [up_ne _ _ e]
    unfold layN
    rw [if_neg (by omega)]
    exact h k (by omega) j hj
theorem histR_6 {hi st : S} {sv : Nat → S} (h : histR hi sv 6) : histR (recH st hi 6) (sN sv st 6) (recN 6) := by
  intro k hk j hj
  have hk : k < 6 := hk
  unfold recH sN layN
  rw [if_pos rfl, if_pos rfl]
  by_cases e : k = 5
  · subst e
    rw [if_pos (by omega), if_pos rfl, show 0 + (252 * 5 + j - 1260) = j by omega]
  · rw [if_neg (by omega), if_neg e]
    unfold shiftN
    rw [if_pos (by omega), show 252 * k + j + 252 = 252 * (k + 1) + j by omega]
    exact h (k + 1) (by omega) j hj
theorem histR_s {hi st : S} {sv : Nat → S} {n : Nat} (h : histR hi sv n) (hn : n ≤ 6) : histR (recH st hi n) (sN sv st n) (recN n) := by
  by_cases e : n = 6
  · subst e; exact histR_6 h
  · exact histR_lt h (by omega)
theorem recN_le {n : Nat} (hn : n ≤ 6) : recN n ≤ 6 := by unfold recN; split <;> omega
/-- what the saved states keep -/
def svOk (sv : Nat → S) (n : Nat) : Prop := ∀ k, k < n → IB 9999 (sv k) ∧ IT (sv k)
theorem svOk_s {sv : Nat → S} {st : S} {n : Nat} (h : svOk sv n) (hb : IB 9999 st) (hi : IT st) (hn : n ≤ 6) : svOk (sN sv st n) (recN n) := by
  intro k hk
  unfold recN at hk
  unfold sN
  by_cases e : n = 6
  · rw [if_pos e] at hk ⊢
    split
    · exact ⟨hb, hi⟩
    · exact h (k + 1) (by omega)
  · rw [if_neg e] at hk ⊢
    by_cases e2 : k = n
    · subst e2; rw [up_eq]; exact ⟨hb, hi⟩
    · rw [up_ne _ _ e2]; exact h k (by omega)
