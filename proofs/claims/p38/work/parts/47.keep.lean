/-! what every act keeps -/
theorem IT_free {st : S} (h : IT st) (i : Nat) (v : Int) (hi : (1 ≤ i ∧ i < 6) ∨ (6 ≤ i ∧ i < 36 ∧ i % 5 ≠ 4) ∨ (36 ≤ i ∧ i % 6 ≠ 3 ∧ i % 6 ≠ 5)) : IT (up st i v) := by
  have e : ∀ j, j ≠ i → up st i v j = st j := fun j hj => up_ne _ _ hj
  refine ⟨fun z hz => ?_, fun r hr => ?_⟩
  · rw [e 0 (by omega), e (6 + 5 * z + 3) (by omega)]; exact h.1 z hz
  · rw [e 0 (by omega), e (36 + 6 * r + 3) (by omega), e (36 + 6 * r + 5) (by omega)]; exact h.2 r hr
theorem IT_ends {st : S} (h : IT st) (z : Nat) (v : Int) (hz : z < 6) (hv : v = 0 ∨ (st 0 < v ∧ v ≤ st 0 + 99)) : IT (up st (6 + 5 * z + 3) v) := by
  refine ⟨fun y hy => ?_, fun r hr => ?_⟩
  · rw [up_ne st (k := 6 + 5 * z + 3) (j := 0) v (by omega)]
    by_cases e : y = z
    · subst e; rw [up_eq]; exact hv
    · rw [up_ne _ _ (by omega)]; exact h.1 y hy
  · rw [up_ne _ _ (by omega), up_ne _ _ (by omega), up_ne _ _ (by omega)]; exact h.2 r hr
theorem IT_saved {st : S} (h : IT st) (r : Nat) (k v e9 : Int) (hv : k = 0 ∨ (st 0 < e9 ∧ e9 ≤ st 0 + 99)) : IT (up (up (up st (36 + 6 * r + 3) k) (36 + 6 * r + 4) v) (36 + 6 * r + 5) e9) := by
  have g : ∀ j, j ≠ 36 + 6 * r + 3 → j ≠ 36 + 6 * r + 4 → j ≠ 36 + 6 * r + 5 → up (up (up st (36 + 6 * r + 3) k) (36 + 6 * r + 4) v) (36 + 6 * r + 5) e9 j = st j := fun j h1 h2 h3 => by rw [up_ne _ _ h3, up_ne _ _ h2, up_ne _ _ h1]
  refine ⟨fun z hz => ?_, fun q hq => ?_⟩
  · rw [g 0 (by omega) (by omega) (by omega), g (6 + 5 * z + 3) (by omega) (by omega) (by omega)]; exact h.1 z hz
  · rw [g 0 (by omega) (by omega) (by omega)]
    by_cases e : q = r
    · subst e
      rw [up_ne _ _ (by omega), up_ne _ _ (by omega), up_eq, up_eq]; exact hv
    · rw [g (36 + 6 * q + 3) (by omega) (by omega) (by omega), g (36 + 6 * q + 5) (by omega) (by omega) (by omega)]; exact h.2 q hq
theorem IT_costs {st : S} (h : IT st) {z : Nat} (hz : z < 6) : IT (costs st z) := IT_free (IT_free h 2 _ (by omega)) _ _ (by omega)
theorem IT_way2 {T : Int} {st : S} (h : IB T st) (hi : IT st) {p z : Nat} (hp : p < 6) (hz : z < 6) : IT (way2 st p z) := by
  refine IT_free (IT_ends (IT_costs hi hp) z _ hz (Or.inr ?_)) 4 _ (by omega)
  rw [costs_ne (by omega) (by omega), costs_ne (by omega) (by omega)]
  have h2 := h.2.2.1 p hp
  unfold zoneB at h2
  omega
theorem IT_come {T : Int} : ∀ (n : Nat) {st : S} (_ : IB T st) (_ : IT st) {z : Nat} (_ : z < 6), IT (come n st z)
  | 0, _, _, hi, _, _ => hi
  | n + 1, st, h, hi, z, hz => by
    unfold come
    split
    · exact hi
    · have hp := IB_par h (z := z) (by omega) hz
      exact IT_way2 (IB_come h (by omega)) (IT_come n h hi (by omega)) (by omega) hz
theorem IT_hold {T : Int} {st : S} (h : IB T st) (hi : IT st) {r z : Nat} (hr : r < 36) (hz : z < 6) : IT (hold st r z) := by
  rw [hold_eq st r z hr hz]
  refine IT_free (IT_saved hi r _ _ _ (Or.inr ?_)) 4 _ (by omega)
  have h3 := (h.2.2.2 r hr).1
  have h2 := h.2.2.1 z hz
  unfold triT at h3; unfold zoneB at h2
  split <;> omega
theorem IT_take {T : Int} {st : S} (h : IB T st) (hi : IT st) {r : Nat} (hr : r < 36) : IT (take st r) := by
  unfold take
  split
  · exact IT_hold (IB_costs (IB_come h (by omega)) (by omega)) (IT_costs (IT_come 6 h hi (by omega)) (by omega)) hr (by omega)
  · exact IT_free hi 3 _ (by omega)
theorem IT_solvesF {T : Int} : ∀ (n : Nat) {st : S} (_ : IB T st) (_ : IT st) {r : Nat} (_ : r < 36), IT (solvesF n st r).1
  | 0, _, _, hi, _, _ => hi
  | n + 1, st, h, hi, r, hr => by
    have hb := IB_take h hr
    have ht := IT_take h hi hr
    unfold solvesF
    split
    · rename_i hc
      exact IT_solvesF n hb ht (IB_next hb hr hc).2
    · exact ht
theorem IT_solve1 {T : Int} {st : S} (h : IB T st) (hi : IT st) {r : Nat} (hr : r < 36) : IT (solve1 st r).1 := IT_solvesF 7 (IB_free h 1 _ (by omega)) (IT_free hi 1 _ (by omega)) hr
theorem IT_forg {st : S} (hi : IT st) {r : Nat} : IT (forg st r) := IT_free (IT_saved hi r 0 0 0 (Or.inl rfl)) 5 _ (by omega)
theorem IT_ini : IT ini9 := ⟨fun z hz => Or.inl (ini_z z hz).2.2.2.1, fun r _ => Or.inl (ini_r r 3 (by decide))⟩
theorem IB_ini : IB 9999 ini9 := by
  refine ⟨⟨by decide, by decide, by decide⟩, ⟨rfl, rfl⟩, fun z hz => ?_, fun r hr => ?_⟩
  · obtain ⟨h1, h2, h3, h4, h5⟩ := ini_z z hz
    unfold zoneB
    rw [h1, h2, h3, h4]
    unfold pf9
    refine ⟨fun h => ?_, by decide, by decide, by decide, by decide, by decide, by decide⟩
    rw [if_neg (by omega)]
    omega
  · have h0 := ini_r r 0 (by decide)
    rw [Nat.add_zero] at h0
    rw [h0, ini_r r 1 (by decide), ini_r r 2 (by decide), ini_r r 3 (by decide), ini_r r 4 (by decide), ini_r r 5 (by decide)]
    exact ⟨Or.inl ⟨rfl, rfl, rfl⟩, Or.inl ⟨rfl, rfl, rfl⟩⟩
