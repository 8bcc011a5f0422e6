/-! what the setters and the passing of time keep -/
theorem passR_lt {s : S} {r j : Nat} (hj : j < 36) (h5 : j ≠ 5) : passR s r j = s j := by
  rw [passR_eq]
  split
  · unfold forg forg3
    rw [up_ne _ _ h5, up_ne _ _ (by omega), up_ne _ _ (by omega), up_ne _ _ (by omega)]
  · rfl
theorem iterR_lt {s : S} {j : Nat} (hj : j < 36) (h5 : j ≠ 5) : ∀ n, iter passR n s j = s j
  | 0 => rfl
  | n + 1 => by
    show passR (iter passR n s) n j = s j
    rw [passR_lt hj h5, iterR_lt hj h5 n]
theorem iterZ_e {s : S} : ∀ n, n ≤ 6 → ∀ z, z < 6 → iter passZ n s (6 + 5 * z + 3) = if z < n ∧ 0 < s (6 + 5 * z + 3) ∧ s (6 + 5 * z + 3) ≤ s 0 then 0 else s (6 + 5 * z + 3)
  | 0, _, z, _ => by rw [if_neg (fun h => absurd h.1 (Nat.not_lt_zero z))]; rfl
  | n + 1, hn, z, hz => by
    show passZ (iter passZ n s) n (6 + 5 * z + 3) = _
    have h0 := iterZ_ge (s := s) n (by omega) 0 (Or.inl rfl)
    have ih := iterZ_e (s := s) n (by omega)
    have own := ih n (by omega)
    rw [if_neg (by omega)] at own
    have oth := ih z hz
    rw [passZ_eq, own, h0]
    by_cases e : z = n
    · subst e
      split
      · rename_i c
        rw [up_ne _ _ (by omega), up_eq, if_pos ⟨Nat.lt_succ_self z, c⟩]
      · rename_i c
        rw [own, if_neg (fun h => c h.2)]
    · have e9 : (if z < n + 1 ∧ 0 < s (6 + 5 * z + 3) ∧ s (6 + 5 * z + 3) ≤ s 0 then (0 : Int) else s (6 + 5 * z + 3)) = if z < n ∧ 0 < s (6 + 5 * z + 3) ∧ s (6 + 5 * z + 3) ≤ s 0 then 0 else s (6 + 5 * z + 3) := by
        by_cases c : z < n ∧ 0 < s (6 + 5 * z + 3) ∧ s (6 + 5 * z + 3) ≤ s 0
        · rw [if_pos c, if_pos ⟨by omega, c.2⟩]
        · rw [if_neg c, if_neg (fun h => c ⟨by omega, h.2⟩)]
      rw [e9]
      split
      · rw [up_ne _ _ (by omega), up_ne _ _ (by omega)]; exact oth
      · exact oth
theorem IT_passes {st : S} (h : IT st) (h0 : 0 ≤ st 0) {t : Int} (ht : 0 ≤ t) : IT (passes st t) := by
  have e0 : passes st t 0 = st 0 + t := by
    show iter passR 36 (iter passZ 6 (up st 0 (st 0 + t))) 0 = _
    rw [iterR_lt (by decide) (by decide), iterZ_ge 6 (Nat.le_refl _) 0 (Or.inl rfl), up_eq]
  refine ⟨fun z hz => ?_, fun r hr => ?_⟩
  · have ez : passes st t (6 + 5 * z + 3) = if 0 < st (6 + 5 * z + 3) ∧ st (6 + 5 * z + 3) ≤ st 0 + t then 0 else st (6 + 5 * z + 3) := by
      show iter passR 36 (iter passZ 6 (up st 0 (st 0 + t))) (6 + 5 * z + 3) = _
      rw [iterR_lt (by omega) (by omega), iterZ_e 6 (Nat.le_refl _) z hz, up_eq, up_ne _ _ (by omega)]
      by_cases c : 0 < st (6 + 5 * z + 3) ∧ st (6 + 5 * z + 3) ≤ st 0 + t
      · rw [if_pos c, if_pos ⟨hz, c⟩]
      · rw [if_neg c, if_neg (fun d => c d.2)]
    have hz1 := h.1 z hz
    rw [e0, ez]
    split <;> omega
  · obtain ⟨-, -, h3⟩ := passes_r (st := st) (t := t) hr
    have hr1 := h.2 r hr
    rw [e0]
    split at h3
    · exact Or.inl h3
    · rename_i c
      obtain ⟨a, -, b⟩ := h3
      rw [a, b]
      omega
theorem IB_zone {T : Int} {st : S} (h : IB T st) (z k : Nat) (v : Int) (hz : z < 6) (hv : (k = 0 ∧ 1 ≤ z ∧ 0 ≤ v ∧ v < z) ∨ (k = 1 ∧ 1 ≤ v ∧ v ≤ 99) ∨ (k = 2 ∧ 1 ≤ v ∧ v ≤ 99)) : IB T (up st (6 + 5 * z + k) v) := by
  have e : ∀ j, j ≠ 6 + 5 * z + k → up st (6 + 5 * z + k) v j = st j := fun j hj => up_ne _ _ hj
  obtain ⟨h0, h1, h2, h3⟩ := h
  refine ⟨by rw [e 0 (by omega)]; exact h0, by rw [e 6 (by omega), e 9 (by omega)]; exact h1, fun y hy => ?_, fun r hr => ?_⟩
  · have hy2 := h2 y hy
    unfold zoneB at hy2 ⊢
    rw [e (6 + 5 * y + 3) (by omega)]
    by_cases ey : y = z
    · subst ey
      rcases hv with ⟨rfl, hv⟩ | ⟨rfl, hv⟩ | ⟨rfl, hv⟩
      · rw [e (6 + 5 * y + 1) (by omega), e (6 + 5 * y + 2) (by omega), Nat.add_zero, up_eq]; omega
      · rw [e (6 + 5 * y) (by omega), e (6 + 5 * y + 2) (by omega), up_eq]; omega
      · rw [e (6 + 5 * y) (by omega), e (6 + 5 * y + 1) (by omega), up_eq]; omega
    · rw [e (6 + 5 * y) (by omega), e (6 + 5 * y + 1) (by omega), e (6 + 5 * y + 2) (by omega)]; exact hy2
  · rw [e (36 + 6 * r) (by omega), e (36 + 6 * r + 1) (by omega), e (36 + 6 * r + 2) (by omega), e (36 + 6 * r + 3) (by omega), e (36 + 6 * r + 4) (by omega), e (36 + 6 * r + 5) (by omega)]; exact h3 r hr
theorem IB_tru {T : Int} {st : S} (h : IB T st) (r : Nat) (k v u : Int) (hr : r < 36) (hv : triT k v u) : IB T (up (up (up st (36 + 6 * r) k) (36 + 6 * r + 1) v) (36 + 6 * r + 2) u) := by
  have g : ∀ j, j ≠ 36 + 6 * r → j ≠ 36 + 6 * r + 1 → j ≠ 36 + 6 * r + 2 → up (up (up st (36 + 6 * r) k) (36 + 6 * r + 1) v) (36 + 6 * r + 2) u j = st j := fun j h1 h2 h3 => by rw [up_ne _ _ h3, up_ne _ _ h2, up_ne _ _ h1]
  obtain ⟨h0, h1, h2, h3⟩ := h
  refine ⟨by rw [g 0 (by omega) (by omega) (by omega)]; exact h0, by rw [g 6 (by omega) (by omega) (by omega), g 9 (by omega) (by omega) (by omega)]; exact h1, fun y hy => ?_, fun q hq => ?_⟩
  · unfold zoneB
    rw [g (6 + 5 * y) (by omega) (by omega) (by omega), g (6 + 5 * y + 1) (by omega) (by omega) (by omega), g (6 + 5 * y + 2) (by omega) (by omega) (by omega), g (6 + 5 * y + 3) (by omega) (by omega) (by omega)]
    exact h2 y hy
  · rw [g (36 + 6 * q + 3) (by omega) (by omega) (by omega), g (36 + 6 * q + 4) (by omega) (by omega) (by omega), g (36 + 6 * q + 5) (by omega) (by omega) (by omega)]
    by_cases e : q = r
    · subst e
      refine ⟨?_, (h3 q hq).2⟩
      rw [up_ne _ _ (by omega), up_ne _ _ (by omega), up_eq, up_ne _ _ (by omega), up_eq, up_eq]
      exact hv
    · rw [g (36 + 6 * q) (by omega) (by omega) (by omega), g (36 + 6 * q + 1) (by omega) (by omega) (by omega), g (36 + 6 * q + 2) (by omega) (by omega) (by omega)]
      exact h3 q hq
