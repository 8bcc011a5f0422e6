/-! the pure pictures -/
abbrev S : Type := Nat → Int
def layN (g : S) (f : Nat) (h : S) (t n : Nat) : S := fun j => if t ≤ j ∧ j < t + n then g (f + (j - t)) else h j
theorem layN_0 (g : S) (f : Nat) (h : S) (t : Nat) : layN g f h t 0 = h := by
  funext j; unfold layN; rw [if_neg (by omega)]
theorem layN_s (g : S) (f : Nat) (h : S) (t n : Nat) : up (layN g f h t n) (t + n) (g (f + n)) = layN g f h t (n + 1) := by
  funext j; unfold layN up
  by_cases h1 : j = t + n
  · subst h1; rw [if_pos rfl, if_pos (by omega)]; congr 1; omega
  · rw [if_neg h1]
    by_cases h2 : t ≤ j ∧ j < t + n <;> dsimp only
    · rw [if_pos h2, if_pos (by omega)]
    · rw [if_neg h2, if_neg (by omega)]
abbrev lay (g : S) (f : Nat) (h : S) (t : Nat) : S := layN g f h t 252
/-- the reference's cells -/
abbrev refW (E : Env3) (ρ : Nat → Nat) (th rc tl pa kd nm : Int) (st hi ke tx wy : S) : va_W :=
  [(ρ 0, .inr (6, [.int (I th), .ref (ρ 1), .ref (ρ 2), .int (I rc), .ref (ρ 3), .ref (ρ 4), .int (I tl), .ref (ρ 5), .int (I pa), .int (I kd), .int (I nm)])),
   (ρ 1, iA E 252 st), (ρ 2, iA E 1512 hi), (ρ 3, iA E 252 ke), (ρ 4, iA E 60 tx), (ρ 5, iA E 6 wy)]
def dR (ρ : Nat → Nat) (n : Nat) : Prop := ∀ i j, i < n → j < n → ρ i = ρ j → i = j
theorem D_of_dR {ρ : Nat → Nat} {n : Nat} {ws : va_W} (h : dR ρ n) (e : ws.map (·.1) = (List.range n).map ρ) : va_D (adIn ws) ws := by
  refine dself ⟨fun i j p q hp hq hpq => ?_, fun _ _ _ => trivial⟩
  have get : ∀ (i : Nat) (p : Nat × va_E), ws[i]? = some p → i < n ∧ p.1 = ρ i := by
    intro i p hp
    have h1 : (ws.map (·.1))[i]? = some p.1 := by rw [List.getElem?_map, hp]; rfl
    rw [e, List.getElem?_map] at h1
    by_cases hi : i < n
    · rw [List.getElem?_range hi] at h1
      exact ⟨hi, (Option.some.inj h1).symm⟩
    · rw [List.getElem?_eq_none (by simpa using hi)] at h1
      cases h1
  obtain ⟨a1, a2⟩ := get i p hp
  obtain ⟨b1, b2⟩ := get j q hq
  exact h i j a1 b1 (by rw [← a2, ← b2, hpq])
theorem D_2 {a b : Nat} {e1 e2 : va_E} (h : a ≠ b) : va_D (adIn [(a, e1), (b, e2)]) [(a, e1), (b, e2)] := by
  refine dself ⟨fun i j p q hp hq hpq => ?_, fun _ _ _ => trivial⟩
  match i, j, hp, hq with
  | 0, 0, _, _ => rfl
  | 1, 1, _, _ => rfl
  | 0, 1, hp, hq => cases hp; cases hq; exact absurd hpq h
  | 1, 0, hp, hq => cases hp; cases hq; exact absurd hpq.symm h
  | i + 2, _, hp, _ => simp at hp
  | 0, j + 2, _, hq => simp at hq
  | 1, j + 2, _, hq => simp at hq
theorem D_1 {a : Nat} {e1 : va_E} : va_D (adIn [(a, e1)]) [(a, e1)] := by
  refine dself ⟨fun i j p q hp hq hpq => ?_, fun _ _ _ => trivial⟩
  match i, j, hp, hq with
  | 0, 0, _, _ => rfl
  | i + 1, _, hp, _ => simp at hp
  | 0, j + 1, _, hq => simp at hq
/-! what the state's numbers say: 0 time, 1 solved, 2 questions, 3 hits, 4 came, 5 went; 6 + 5 z + k of a zone; 36 + 6 r + k of a riddle -/
def par (st : S) (z : Nat) : Nat := (st (6 + 5 * z)).toNat
def costs (st : S) (z : Nat) : S := up (up st 2 (st 2 + 1)) (6 + 5 * z + 4) (up st 2 (st 2 + 1) (6 + 5 * z + 4) + 1)
/-- the way to z is asked of p -/
def way2 (st : S) (p z : Nat) : S := up (up (costs st p) (6 + 5 * z + 3) (costs st p 0 + costs st p (6 + 5 * p + 1))) 4 (up (costs st p) (6 + 5 * z + 3) (costs st p 0 + costs st p (6 + 5 * p + 1)) 4 + 1)
def come : Nat → S → Nat → S
  | 0, st, _ => st
  | n + 1, st, z => if z = 0 ∨ st (6 + 5 * z + 3) ≠ 0 then st else way2 (come n st (par st z)) (par st z) z
def hold1 (st : S) (r : Nat) : S := up st (36 + 6 * r + 3) (if st (36 + 6 * r) = 0 then 3 else st (36 + 6 * r))
def hold2 (st : S) (r : Nat) : S := up (hold1 st r) (36 + 6 * r + 4) (hold1 st r (36 + 6 * r + 1))
def hold3 (st : S) (r z : Nat) : S := up (hold2 st r) (36 + 6 * r + 5) (hold2 st r 0 + (if st (36 + 6 * r) = 0 then hold2 st r (6 + 5 * z + 2) else hold2 st r (36 + 6 * r + 2)))
def hold (st : S) (r z : Nat) : S := up (hold3 st r z) 4 (hold3 st r z 4 + 1)
def asks (st : S) (r : Nat) : S := hold (costs (come 6 st (r / 6)) (r / 6)) r (r / 6)
def take (st : S) (r : Nat) : S := if st (36 + 6 * r + 3) = 0 then asks st r else up st 3 (st 3 + 1)
def solvesF : Nat → S → Nat → S × Int
  | 0, st, _ => (st, -2)
  | n + 1, st, r => if take st r (36 + 6 * r + 3) = 2 then solvesF n (take st r) (take st r (36 + 6 * r + 4)).toNat else (take st r, if take st r (36 + 6 * r + 3) = 1 then take st r (36 + 6 * r + 4) else -1)
def solve1 (st : S) (r : Nat) : S × Int := solvesF 7 (up st 1 (st 1 + 1)) r
def forg3 (st : S) (r : Nat) : S := up (up (up st (36 + 6 * r + 3) 0) (36 + 6 * r + 4) 0) (36 + 6 * r + 5) 0
def forg (st : S) (r : Nat) : S := up (forg3 st r) 5 (forg3 st r 5 + 1)
def iter (f : S → Nat → S) : Nat → S → S
  | 0, s => s
  | n + 1, s => f (iter f n s) n
def passZ (st : S) (z : Nat) : S := if 0 < st (6 + 5 * z + 3) ∧ st (6 + 5 * z + 3) ≤ st 0 then up (up st (6 + 5 * z + 3) 0) 5 (up st (6 + 5 * z + 3) 0 5 + 1) else st
def passR (st : S) (r : Nat) : S := if st (36 + 6 * r + 3) ≠ 0 ∧ st (36 + 6 * r + 5) ≤ st 0 then forg st r else st
def passes (st : S) (t : Int) : S := iter passR 36 (iter passZ 6 (up st 0 (st 0 + t)))
def truthF : Nat → S → Nat → Int
  | 0, _, _ => -2
  | n + 1, st, r => if st (36 + 6 * r) = 2 then truthF n st (st (36 + 6 * r + 1)).toNat else st (36 + 6 * r + 1)
def depthF : Nat → S → Nat → Int
  | 0, _, _ => 0
  | n + 1, st, z => if z = 0 then 0 else 1 + depthF n st (par st z)
def left (st : S) (e : Int) : Int := if e = 0 then -1 else e - st 0
def sumN (f : Nat → Int) : Nat → Int
  | 0 => 0
  | n + 1 => sumN f n + f n
def memo (st : S) : Int := sumN (fun z => if 0 < st (6 + 5 * z + 3) then 1 else 0) 6 + sumN (fun r => if 0 < st (36 + 6 * r + 5) then 1 else 0) 36
def sooner (a b : Int) : Int := if a = -1 ∨ (b ≠ -1 ∧ b < a) then b else a
def foldN (g : Int → Nat → Int) : Nat → Int → Int
  | 0, a => a
  | n + 1, a => g (foldN g n a) n
def untl (st : S) : Int := foldN (fun a r => sooner a (left st (st (36 + 6 * r + 5)))) 36 (foldN (fun a z => sooner a (left st (st (6 + 5 * z + 3)))) 6 (-1))
def isOld (st : S) (r : Nat) : Prop := st (36 + 6 * r + 3) ≠ 0 ∧ ¬ (if st (36 + 6 * r + 3) = 3 then st (36 + 6 * r) = 0 else st (36 + 6 * r + 3) = st (36 + 6 * r) ∧ st (36 + 6 * r + 4) = st (36 + 6 * r + 1))
def would (st : S) (r : Nat) : Int := (solvesF 7 st r).2
def cost (st : S) (r : Nat) : Int := (solvesF 7 st r).1 2 - st 2
def wouldIn (st : S) (r : Nat) (t : Int) : Int := (solvesF 7 (passes st t) r).2
def waitF : Nat → S → Nat → Nat → Nat
  | 0, _, _, k => k
  | n + 1, st, r, k => if wouldIn st r k = truthF 7 st r then k else waitF n st r (k + 1)
/-! the ranges -/
def triT (k v a : Int) : Prop := (k = 0 ∧ v = -1 ∧ a = 0) ∨ (k = 1 ∧ 0 ≤ v ∧ v ≤ 99 ∧ 1 ≤ a ∧ a ≤ 99) ∨ (k = 2 ∧ 0 ≤ v ∧ v < 36 ∧ 1 ≤ a ∧ a ≤ 99)
def triM (T k v e : Int) : Prop := (k = 0 ∧ v = 0 ∧ e = 0) ∨ (k = 1 ∧ 0 ≤ v ∧ v ≤ 99 ∧ 1 ≤ e ∧ e ≤ T + 99) ∨ (k = 2 ∧ 0 ≤ v ∧ v < 36 ∧ 1 ≤ e ∧ e ≤ T + 99) ∨ (k = 3 ∧ v = -1 ∧ 1 ≤ e ∧ e ≤ T + 99)
def zoneB (T : Int) (st : S) (z : Nat) : Prop := (1 ≤ z → 0 ≤ st (6 + 5 * z) ∧ st (6 + 5 * z) < z) ∧ 1 ≤ st (6 + 5 * z + 1) ∧ st (6 + 5 * z + 1) ≤ 99 ∧ 1 ≤ st (6 + 5 * z + 2) ∧ st (6 + 5 * z + 2) ≤ 99 ∧ 0 ≤ st (6 + 5 * z + 3) ∧ st (6 + 5 * z + 3) ≤ T + 99
def IB (T : Int) (st : S) : Prop := (0 ≤ st 0 ∧ st 0 ≤ T ∧ T ≤ 100000) ∧ (st 6 = -1 ∧ st 9 = 0) ∧ (∀ z, z < 6 → zoneB T st z) ∧ ∀ r, r < 36 → triT (st (36 + 6 * r)) (st (36 + 6 * r + 1)) (st (36 + 6 * r + 2)) ∧ triM T (st (36 + 6 * r + 3)) (st (36 + 6 * r + 4)) (st (36 + 6 * r + 5))
/-- what is remembered ends later than now, and not too late -/
def IT (st : S) : Prop := (∀ z, z < 6 → st (6 + 5 * z + 3) = 0 ∨ (st 0 < st (6 + 5 * z + 3) ∧ st (6 + 5 * z + 3) ≤ st 0 + 99)) ∧ ∀ r, r < 36 → st (36 + 6 * r + 3) = 0 ∨ (st 0 < st (36 + 6 * r + 5) ∧ st (36 + 6 * r + 5) ≤ st 0 + 99)
theorem triT_up {st : S} {i : Nat} {v : Int} {r : Nat} (h : triT (st (36 + 6 * r)) (st (36 + 6 * r + 1)) (st (36 + 6 * r + 2))) (h1 : i ≠ 36 + 6 * r) (h2 : i ≠ 36 + 6 * r + 1) (h3 : i ≠ 36 + 6 * r + 2) : triT (up st i v (36 + 6 * r)) (up st i v (36 + 6 * r + 1)) (up st i v (36 + 6 * r + 2)) := by
  rw [up_ne _ _ (Ne.symm h1), up_ne _ _ (Ne.symm h2), up_ne _ _ (Ne.symm h3)]; exact h
/-- a place that no range speaks of -/
theorem IB_free {T : Int} {st : S} (h : IB T st) (i : Nat) (v : Int) (hi : (1 ≤ i ∧ i < 6) ∨ ∃ z, z < 6 ∧ i = 6 + 5 * z + 4) : IB T (up st i v) := by
  obtain ⟨h0, h1, h2, h3⟩ := h
  have hi' : (1 ≤ i ∧ i < 6) ∨ (i % 5 = 0 ∧ 10 ≤ i ∧ i < 36) := by rcases hi with hi | ⟨z, hz, hi⟩ <;> omega
  have e : ∀ j, (j < 1 ∨ (6 ≤ j ∧ j % 5 ≠ 0) ∨ 36 ≤ j) → up st i v j = st j := fun j hj => up_ne _ _ (by omega)
  refine ⟨by rw [e 0 (by omega)]; exact h0, by rw [e 6 (by omega), e 9 (by omega)]; exact h1, fun z hz => ?_, fun r hr => ?_⟩
  · unfold zoneB
    rw [e (6 + 5 * z) (by omega), e (6 + 5 * z + 1) (by omega), e (6 + 5 * z + 2) (by omega), e (6 + 5 * z + 3) (by omega)]
    exact h2 z hz
  · rw [e (36 + 6 * r) (by omega), e (36 + 6 * r + 1) (by omega), e (36 + 6 * r + 2) (by omega), e (36 + 6 * r + 3) (by omega), e (36 + 6 * r + 4) (by omega), e (36 + 6 * r + 5) (by omega)]
    exact h3 r hr
theorem IB_ends {T : Int} {st : S} (h : IB T st) (z : Nat) (v : Int) (hz : 1 ≤ z ∧ z < 6) (hv : 0 ≤ v ∧ v ≤ T + 99) : IB T (up st (6 + 5 * z + 3) v) := by
  obtain ⟨h0, h1, h2, h3⟩ := h
  have e : ∀ j, j ≠ 6 + 5 * z + 3 → up st (6 + 5 * z + 3) v j = st j := fun j hj => up_ne _ _ hj
  refine ⟨by rw [e 0 (by omega)]; exact h0, by rw [e 6 (by omega), e 9 (by omega)]; exact h1, fun y hy => ?_, fun r hr => ?_⟩
  · have hb := h2 y hy
    unfold zoneB at hb ⊢
    rw [e (6 + 5 * y) (by omega), e (6 + 5 * y + 1) (by omega), e (6 + 5 * y + 2) (by omega)]
    by_cases hyz : y = z
    · subst hyz; rw [up_eq]; omega
    · rw [e (6 + 5 * y + 3) (by omega)]; exact hb
  · rw [e (36 + 6 * r) (by omega), e (36 + 6 * r + 1) (by omega), e (36 + 6 * r + 2) (by omega), e (36 + 6 * r + 3) (by omega), e (36 + 6 * r + 4) (by omega), e (36 + 6 * r + 5) (by omega)]
    exact h3 r hr
theorem IB_saved {T : Int} {st : S} (h : IB T st) (r : Nat) (k v e' : Int) (hr : r < 36) (hv : triM T k v e') : IB T (up (up (up st (36 + 6 * r + 3) k) (36 + 6 * r + 4) v) (36 + 6 * r + 5) e') := by
  obtain ⟨h0, h1, h2, h3⟩ := h
  have e : ∀ j, j ≠ 36 + 6 * r + 3 → j ≠ 36 + 6 * r + 4 → j ≠ 36 + 6 * r + 5 → up (up (up st (36 + 6 * r + 3) k) (36 + 6 * r + 4) v) (36 + 6 * r + 5) e' j = st j := fun j h1 h2 h3 => by rw [up_ne _ _ h3, up_ne _ _ h2, up_ne _ _ h1]
  refine ⟨by rw [e 0 (by omega) (by omega) (by omega)]; exact h0, by rw [e 6 (by omega) (by omega) (by omega), e 9 (by omega) (by omega) (by omega)]; exact h1, fun y hy => ?_, fun q hq => ?_⟩
  · unfold zoneB
    rw [e (6 + 5 * y) (by omega) (by omega) (by omega), e (6 + 5 * y + 1) (by omega) (by omega) (by omega), e (6 + 5 * y + 2) (by omega) (by omega) (by omega), e (6 + 5 * y + 3) (by omega) (by omega) (by omega)]
    exact h2 y hy
  · rw [e (36 + 6 * q) (by omega) (by omega) (by omega), e (36 + 6 * q + 1) (by omega) (by omega) (by omega), e (36 + 6 * q + 2) (by omega) (by omega) (by omega)]
    refine ⟨(h3 q hq).1, ?_⟩
    by_cases hqr : q = r
    · subst hqr
      have e3 : ∀ x y z : Int, up (up (up st (36 + 6 * q + 3) x) (36 + 6 * q + 4) y) (36 + 6 * q + 5) z (36 + 6 * q + 3) = x := fun x y z => by rw [up_ne _ _ (by omega), up_ne _ _ (by omega), up_eq]
      have e4 : ∀ x y z : Int, up (up (up st (36 + 6 * q + 3) x) (36 + 6 * q + 4) y) (36 + 6 * q + 5) z (36 + 6 * q + 4) = y := fun x y z => by rw [up_ne _ _ (by omega), up_eq]
      rw [e3, e4, up_eq]
      exact hv
    · rw [e (36 + 6 * q + 3) (by omega) (by omega) (by omega), e (36 + 6 * q + 4) (by omega) (by omega) (by omega), e (36 + 6 * q + 5) (by omega) (by omega) (by omega)]
      exact (h3 q hq).2
theorem IB_par {T : Int} {st : S} (h : IB T st) {z : Nat} (h1 : 1 ≤ z) (hz : z < 6) : st (6 + 5 * z) = (par st z : Int) ∧ par st z < z := by
  have := (h.2.2.1 z hz).1 h1
  unfold par
  omega
theorem IB_mono {T U : Int} {st : S} (h : IB T st) (hTU : T ≤ U) (hU : U ≤ 100000) : IB U st := by
  obtain ⟨h0, h1, h2, h3⟩ := h
  refine ⟨by omega, h1, fun z hz => ?_, fun r hr => ⟨(h3 r hr).1, ?_⟩⟩
  · have := h2 z hz; unfold zoneB at this ⊢; omega
  · have := (h3 r hr).2; unfold triM at this ⊢; omega
theorem IB_costs {T : Int} {st : S} (h : IB T st) {z : Nat} (hz : z < 6) : IB T (costs st z) := IB_free (IB_free h 2 _ (by omega)) _ _ (Or.inr ⟨z, hz, rfl⟩)
theorem costs_ne {st : S} {z j : Nat} (h : j ≠ 2) (h2 : j ≠ 6 + 5 * z + 4) : costs st z j = st j := by unfold costs; rw [up_ne _ _ h2, up_ne _ _ h]
theorem IB_way2 {T : Int} {st : S} (h : IB T st) {p z : Nat} (hp : p < 6) (hz : 1 ≤ z ∧ z < 6) : IB T (way2 st p z) := by
  refine IB_free (IB_ends (IB_costs h hp) z _ hz ?_) 4 _ (by omega)
  rw [costs_ne (by omega) (by omega), costs_ne (by omega) (by omega)]
  have h2 := h.2.2.1 p hp
  have h0 := h.1
  unfold zoneB at h2
  omega
theorem way2_ne {st : S} {p z j : Nat} (h2 : j ≠ 2) (h4 : j ≠ 4) (ha : j ≠ 6 + 5 * p + 4) (he : j ≠ 6 + 5 * z + 3) : way2 st p z j = st j := by
  unfold way2; rw [up_ne _ _ h4, up_ne _ _ he, costs_ne h2 ha]
theorem come_all {T : Int} : ∀ (n : Nat) {st : S} (_ : IB T st) {z : Nat} (_ : z < 6), IB T (come n st z) ∧ ∀ j, j ≠ 2 → j ≠ 4 → (∀ p, p < 6 → j ≠ 6 + 5 * p + 4 ∧ j ≠ 6 + 5 * p + 3) → come n st z j = st j
  | 0, st, h, z, hz => ⟨h, fun _ _ _ _ => rfl⟩
  | n + 1, st, h, z, hz => by
    unfold come
    split
    · exact ⟨h, fun _ _ _ _ => rfl⟩
    · rename_i hc
      have hp := IB_par h (z := z) (by omega) hz
      obtain ⟨a, b⟩ := come_all n h (z := par st z) (by omega)
      refine ⟨IB_way2 a (by omega) (by omega), fun j h2 h4 hj => ?_⟩
      rw [way2_ne h2 h4 (hj (par st z) (by omega)).1 (hj z hz).2, b j h2 h4 hj]
theorem IB_come {T : Int} {n : Nat} {st : S} (h : IB T st) {z : Nat} (hz : z < 6) : IB T (come n st z) := (come_all n h hz).1
theorem hold_eq (st : S) (r z : Nat) (hr : r < 36) (hz : z < 6) : hold st r z = up (up (up (up st (36 + 6 * r + 3) (if st (36 + 6 * r) = 0 then 3 else st (36 + 6 * r))) (36 + 6 * r + 4) (st (36 + 6 * r + 1))) (36 + 6 * r + 5) (st 0 + (if st (36 + 6 * r) = 0 then st (6 + 5 * z + 2) else st (36 + 6 * r + 2)))) 4 (st 4 + 1) := by
  unfold hold hold3 hold2 hold1
  simp only [up_ne _ _ (show 36 + 6 * r + 1 ≠ 36 + 6 * r + 3 by omega), up_ne _ _ (show 0 ≠ 36 + 6 * r + 4 by omega), up_ne _ _ (show 0 ≠ 36 + 6 * r + 3 by omega), up_ne _ _ (show 6 + 5 * z + 2 ≠ 36 + 6 * r + 4 by omega), up_ne _ _ (show 6 + 5 * z + 2 ≠ 36 + 6 * r + 3 by omega), up_ne _ _ (show 36 + 6 * r + 2 ≠ 36 + 6 * r + 4 by omega), up_ne _ _ (show 36 + 6 * r + 2 ≠ 36 + 6 * r + 3 by omega), up_ne _ _ (show 4 ≠ 36 + 6 * r + 5 by omega), up_ne _ _ (show 4 ≠ 36 + 6 * r + 4 by omega), up_ne _ _ (show 4 ≠ 36 + 6 * r + 3 by omega)]
theorem IB_hold {T : Int} {st : S} (h : IB T st) {r z : Nat} (hr : r < 36) (hz : z < 6) : IB T (hold st r z) := by
  rw [hold_eq st r z hr hz]
  refine IB_free (IB_saved h r _ _ _ hr ?_) 4 _ (by omega)
  have h3 := (h.2.2.2 r hr).1
  have h2 := h.2.2.1 z hz
  have h0 := h.1
  unfold triT at h3; unfold zoneB at h2; unfold triM
  split <;> omega
theorem IB_asks {T : Int} {st : S} (h : IB T st) {r : Nat} (hr : r < 36) : IB T (asks st r) := IB_hold (IB_costs (IB_come h (by omega)) (by omega)) hr (by omega)
theorem IB_take {T : Int} {st : S} (h : IB T st) {r : Nat} (hr : r < 36) : IB T (take st r) := by
  unfold take; split
  · exact IB_asks h hr
  · exact IB_free h 3 _ (by omega)
theorem IB_next {T : Int} {st : S} (h : IB T st) {r : Nat} (hr : r < 36) (hk : st (36 + 6 * r + 3) = 2) : st (36 + 6 * r + 4) = ((st (36 + 6 * r + 4)).toNat : Int) ∧ (st (36 + 6 * r + 4)).toNat < 36 := by
  have := (h.2.2.2 r hr).2
  unfold triM at this; omega
theorem IB_nextT {T : Int} {st : S} (h : IB T st) {r : Nat} (hr : r < 36) (hk : st (36 + 6 * r) = 2) : st (36 + 6 * r + 1) = ((st (36 + 6 * r + 1)).toNat : Int) ∧ (st (36 + 6 * r + 1)).toNat < 36 := by
  have := (h.2.2.2 r hr).1
  unfold triT at this; omega
theorem IB_solvesF {T : Int} : ∀ (n : Nat) {st : S} (_ : IB T st) {r : Nat} (_ : r < 36), IB T (solvesF n st r).1
  | 0, _, h, _, _ => h
  | n + 1, st, h, r, hr => by
    unfold solvesF
    split
    · rename_i hk
      exact IB_solvesF n (IB_take h hr) (IB_next (IB_take h hr) hr hk).2
    · exact IB_take h hr
theorem IB_forg {T : Int} {st : S} (h : IB T st) {r : Nat} (hr : r < 36) : IB T (forg st r) := IB_free (IB_saved h r 0 0 0 hr (Or.inl ⟨rfl, rfl, rfl⟩)) 5 _ (by omega)
theorem IB_passZ {T : Int} {st : S} (h : IB T st) {z : Nat} (hz : z < 6) : IB T (passZ st z) := by
  unfold passZ; split
  · rename_i hc
    have : z ≠ 0 := by rintro rfl; have h9 : st (6 + 5 * 0 + 3) = 0 := h.2.1.2; omega
    have h0 := h.1
    exact IB_free (IB_ends h z 0 (by omega) (by omega)) 5 _ (by omega)
  · exact h
theorem IB_passR {T : Int} {st : S} (h : IB T st) {r : Nat} (hr : r < 36) : IB T (passR st r) := by
  unfold passR; split
  · exact IB_forg h hr
  · exact h
theorem iter_IB {T : Int} {f : S → Nat → S} {N : Nat} (hf : ∀ st n, n < N → IB T st → IB T (f st n)) : ∀ n, n ≤ N → ∀ st, IB T st → IB T (iter f n st)
  | 0, _, _, h => h
  | n + 1, hn, st, h => hf _ n (by omega) (iter_IB hf n (by omega) st h)
theorem IB_time {T : Int} {st : S} (h : IB T st) (v : Int) (hv : 0 ≤ v) (U : Int) (hU : T ≤ U ∧ v ≤ U ∧ U ≤ 100000) : IB U (up st 0 v) := by
  obtain ⟨h0, h1, h2, h3⟩ := IB_mono h hU.1 hU.2.2
  have e : ∀ j, 0 < j → up st 0 v j = st j := fun j hj => up_ne _ _ (by omega)
  refine ⟨by rw [up_eq]; omega, by rw [e 6 (by omega), e 9 (by omega)]; exact h1, fun z hz => ?_, fun r hr => ?_⟩
  · unfold zoneB
    rw [e (6 + 5 * z) (by omega), e (6 + 5 * z + 1) (by omega), e (6 + 5 * z + 2) (by omega), e (6 + 5 * z + 3) (by omega)]
    exact h2 z hz
  · rw [e (36 + 6 * r) (by omega), e (36 + 6 * r + 1) (by omega), e (36 + 6 * r + 2) (by omega), e (36 + 6 * r + 3) (by omega), e (36 + 6 * r + 4) (by omega), e (36 + 6 * r + 5) (by omega)]
    exact h3 r hr
theorem IB_passes {T : Int} {st : S} (h : IB T st) (t : Int) (ht : 0 ≤ t) (U : Int) (hU : T + t ≤ U ∧ U ≤ 100000) : IB U (passes st t) := by
  have h0 := h.1
  have h1 : IB U (up st 0 (st 0 + t)) := IB_time h _ (by omega) U (by omega)
  exact iter_IB (N := 36) (fun st n hn h => IB_passR h hn) 36 (Nat.le_refl _) _ (iter_IB (N := 6) (fun st n hn h => IB_passZ h hn) 6 (Nat.le_refl _) _ h1)
/-! the reference's own ways -/
def shiftN (h : S) (n : Nat) : S := fun j => if j < n then h (j + 252) else h j
theorem shiftN_0 (h : S) : shiftN h 0 = h := by funext j; simp [shiftN]
theorem shiftN_s (h : S) (n : Nat) : up (shiftN h n) n (h (n + 252)) = shiftN h (n + 1) := by
  funext j; unfold shiftN up
  by_cases h1 : j = n
  · subst h1; rw [if_pos rfl, if_pos (by omega)]
  · rw [if_neg h1]
    by_cases h2 : j < n <;> dsimp only
    · rw [if_pos h2, if_pos (by omega)]
    · rw [if_neg h2, if_neg (by omega)]
def recH (st hi : S) (n : Nat) : S := if n = 6 then layN st 0 (shiftN hi 1260) 1260 252 else layN st 0 hi (252 * n) 252
def recN (n : Nat) : Nat := if n = 6 then 6 else n + 1
def cs (st : S) (z : Nat) : Nat → Nat
  | 0 => z
  | n + 1 => par st (cs st z n)
theorem come_fuel {T : Int} {st : S} (h : IB T st) : ∀ (n m z : Nat), z < n → z < m → z < 6 → come n st z = come m st z
  | 0, _, _, h1, _, _ => absurd h1 (by omega)
  | _, 0, _, _, h2, _ => absurd h2 (by omega)
  | n + 1, m + 1, z, h1, h2, hz => by
    unfold come
    split
    · rfl
    · rename_i hc
      have hp := IB_par h (z := z) (by omega) hz
      rw [come_fuel h n m (par st z) (by omega) (by omega) (by omega)]
theorem come_step {T : Int} {st : S} (h : IB T st) {z : Nat} (hz : z < 6) (h1 : z ≠ 0) (h2 : st (6 + 5 * z + 3) = 0) : come 6 st z = way2 (come 6 st (par st z)) (par st z) z := by
  have hp := IB_par h (z := z) (by omega) hz
  rw [show come 6 st z = if z = 0 ∨ st (6 + 5 * z + 3) ≠ 0 then st else way2 (come 5 st (par st z)) (par st z) z from rfl, if_neg (by omega), come_fuel h 5 6 (par st z) (by omega) (by omega) (by omega)]
theorem come_end {st : S} {z : Nat} (h : z = 0 ∨ st (6 + 5 * z + 3) ≠ 0) : come 6 st z = st := by
  rw [show come 6 st z = if z = 0 ∨ st (6 + 5 * z + 3) ≠ 0 then st else way2 (come 5 st (par st z)) (par st z) z from rfl, if_pos h]
theorem cs_le {T : Int} {st : S} (h : IB T st) {z : Nat} (hz : z < 6) : ∀ i, (∀ j, j < i → cs st z j ≠ 0) → cs st z i + i ≤ 5
  | 0, _ => by show z + 0 ≤ 5; omega
  | i + 1, hj => by
    have h1 := cs_le h hz i (fun j q => hj j (by omega))
    have h2 := hj i (by omega)
    have h3 := (IB_par h (z := cs st z i) (by omega) (by omega)).2
    show par st (cs st z i) + (i + 1) ≤ 5
    omega
def oldI (st : S) (r : Nat) : Int := if st (36 + 6 * r + 3) = 0 then 0 else if st (36 + 6 * r + 3) = 3 then (if st (36 + 6 * r) = 0 then 0 else 1) else if st (36 + 6 * r + 3) = st (36 + 6 * r) ∧ st (36 + 6 * r + 4) = st (36 + 6 * r + 1) then 0 else 1
theorem iA_ext {E : Env3} {n a : Nat} {g g' : S} {H : Heap} (h : ∀ j, j < n → g j = g' j) (hP : va_at E.1 vwCl (a, iA E n g) H) : va_at E.1 vwCl (a, iA E n g') H := by
  have e : vp_cell E.2.1 (n, .inl (fun i => I (g i))) = vp_cell E.2.1 (n, .inl (fun i => I (g' i))) := by
    rw [vp_cell_i, vp_cell_i]
    unfold arrV
    congr 1
    congr 1
    funext j
    dsimp only
    rw [h j.val j.isLt]
  show H[a]? = some (vp_cell E.2.1 (n, .inl (fun i => I (g' i))))
  rw [← e]
  exact hP
theorem ref_st {E : Env3} {ρ : Nat → Nat} {th rc tl pa kd nm : Int} {st st' hi ke tx wy : S} {H : Heap} (h : ∀ j, j < 252 → st j = st' j) (hP : va_P E.1 vwCl (refW E ρ th rc tl pa kd nm st hi ke tx wy) H) : va_P E.1 vwCl (refW E ρ th rc tl pa kd nm st' hi ke tx wy) H := by
  intro k q hk
  match k, hk with
  | 0, hk => exact hP 0 q hk
  | 1, hk => cases hk; exact iA_ext h (hP 1 _ rfl)
  | 2, hk => exact hP 2 q hk
  | 3, hk => exact hP 3 q hk
  | 4, hk => exact hP 4 q hk
  | 5, hk => exact hP 5 q hk
  | k + 6, hk => simp at hk
theorem depth_0 (n : Nat) (st : S) : depthF n st 0 = 0 := by cases n <;> simp [depthF]
theorem depth_fuel {T : Int} {st : S} (h : IB T st) : ∀ (n m z : Nat), z < n → z < m → z < 6 → depthF n st z = depthF m st z
  | 0, _, _, h1, _, _ => absurd h1 (by omega)
  | _, 0, _, _, h2, _ => absurd h2 (by omega)
  | n + 1, m + 1, z, h1, h2, hz => by
    unfold depthF
    split
    · rfl
    · rename_i hc
      have hp := IB_par h (z := z) (by omega) hz
      rw [depth_fuel h n m (par st z) (by omega) (by omega) (by omega)]
theorem depth_s {T : Int} {st : S} (h : IB T st) {z : Nat} (hz : z < 6) (h1 : z ≠ 0) : depthF 6 st z = 1 + depthF 6 st (par st z) := by
  have hp := IB_par h (z := z) (by omega) hz
  rw [show depthF 6 st z = if z = 0 then 0 else 1 + depthF 5 st (par st z) from rfl, if_neg h1, depth_fuel h 5 6 (par st z) (by omega) (by omega) (by omega)]
theorem solves_s {n : Nat} {st : S} {r : Nat} (h : take st r (36 + 6 * r + 3) = 2) : solvesF (n + 1) st r = solvesF n (take st r) (take st r (36 + 6 * r + 4)).toNat := by
  rw [solvesF, if_pos h]
theorem truth_s {n : Nat} {st : S} {r : Nat} (h : st (36 + 6 * r) = 2) : truthF (n + 1) st r = truthF n st (st (36 + 6 * r + 1)).toNat := by
  rw [truthF, if_pos h]
theorem passZ_0 {st : S} (h : st 9 = 0) : passZ st 0 = st := by
  unfold passZ; rw [if_neg]; intro hc; have : st (6 + 5 * 0 + 3) = 0 := h; omega
theorem left_rng {T : Int} {st : S} (h : IB T st) (e : Int) (he : 0 ≤ e ∧ e ≤ 1000000) : -1000000 ≤ left st e ∧ left st e ≤ 1000000 := by
  have := h.1
  unfold left; split <;> omega
theorem sooner_rng {a b : Int} (ha : -1000000 ≤ a ∧ a ≤ 1000000) (hb : -1000000 ≤ b ∧ b ≤ 1000000) : -1000000 ≤ sooner a b ∧ sooner a b ≤ 1000000 := by
  unfold sooner; split <;> assumption
theorem untl_rngZ {T : Int} {st : S} (h : IB T st) : ∀ i, i ≤ 6 → -1000000 ≤ foldN (fun a z => sooner a (left st (st (6 + 5 * z + 3)))) i (-1) ∧ foldN (fun a z => sooner a (left st (st (6 + 5 * z + 3)))) i (-1) ≤ 1000000
  | 0, _ => by show -1000000 ≤ (-1 : Int) ∧ (-1 : Int) ≤ 1000000; omega
  | i + 1, hi => by
    have z9 := (h.2.2.1 i (by omega)).2.2.2.2.2
    have z8 := h.1
    exact sooner_rng (untl_rngZ h i (by omega)) (left_rng h _ (by omega))
theorem untl_rngR {T : Int} {st : S} (h : IB T st) : ∀ i, i ≤ 36 → -1000000 ≤ foldN (fun a r => sooner a (left st (st (36 + 6 * r + 5)))) i (foldN (fun a z => sooner a (left st (st (6 + 5 * z + 3)))) 6 (-1)) ∧ foldN (fun a r => sooner a (left st (st (36 + 6 * r + 5)))) i (foldN (fun a z => sooner a (left st (st (6 + 5 * z + 3)))) 6 (-1)) ≤ 1000000
  | 0, _ => untl_rngZ h 6 (Nat.le_refl _)
  | i + 1, hi => by
    have z9 := (h.2.2.2 i (by omega)).2
    unfold triM at z9
    have z8 := h.1
    exact sooner_rng (untl_rngR h i (by omega)) (left_rng h _ (by omega))
theorem lay_back {st ke X : S} {j : Nat} (hj : j < 252) : layN (layN st 0 ke 0 252) 0 X 0 252 j = st j := by
  unfold layN
  rw [if_pos (by omega), if_pos (by omega)]
  congr 1
  omega
theorem old_nar {st : S} {r : Nat} : narrow .boolean (.int (I (oldI st r))) = .int (I (oldI st r)) := by
  unfold oldI
  split
  · rfl
  · split
    · split <;> rfl
    · split <;> rfl
theorem old_01 (st : S) (r : Nat) : oldI st r = 0 ∨ oldI st r = 1 := by
  unfold oldI
  split
  · omega
  · split
    · split <;> omega
    · split <;> omega
theorem truth_rng {T : Int} {st : S} (h : IB T st) : ∀ (n r : Nat), r < 36 → -2 ≤ truthF n st r ∧ truthF n st r ≤ 99
  | 0, _, _ => by show -2 ≤ (-2 : Int) ∧ (-2 : Int) ≤ 99; omega
  | n + 1, r, hr => by
    unfold truthF
    split
    · rename_i hk
      exact truth_rng h n _ (IB_nextT h hr hk).2
    · have := (h.2.2.2 r hr).1
      unfold triT at this; omega
theorem solves_rng {T : Int} : ∀ (n : Nat) {st : S} (_ : IB T st) (r : Nat), r < 36 → -2 ≤ (solvesF n st r).2 ∧ (solvesF n st r).2 ≤ 99
  | 0, _, _, _, _ => by show -2 ≤ (-2 : Int) ∧ (-2 : Int) ≤ 99; omega
  | n + 1, st, h, r, hr => by
    unfold solvesF
    split
    · rename_i hk
      exact solves_rng n (IB_take h hr) _ (IB_next (IB_take h hr) hr hk).2
    · have := ((IB_take h hr).2.2.2 r hr).2
      unfold triM at this
      dsimp only
      split <;> omega
theorem waitF_s {n : Nat} {st : S} {r k : Nat} (h : ¬ wouldIn st r k = truthF 7 st r) : waitF (n + 1) st r k = waitF n st r (k + 1) := by rw [waitF, if_neg h]
theorem waitF_e {n : Nat} {st : S} {r k : Nat} (h : wouldIn st r k = truthF 7 st r) : waitF (n + 1) st r k = k := by rw [waitF, if_pos h]
