/-! the zones on the way that lack a referral: as a chain, and as a mask -/
def chainB : Nat → S → (Nat → Bool) → Nat → List Nat
  | 0, _, _, _ => []
  | n + 1, s, rb, z => if z = 0 ∨ s (6 + 5 * z + 3) ≠ 0 ∨ rb z = true then [] else z :: chainB n s rb (par s z)
def maskF (L : List Nat) (m : Nat) : Nat := L.foldl (fun m z => m ||| 2 ^ z) m
theorem chainB_s {n : Nat} {s : S} {rb : Nat → Bool} {z : Nat} (h : ¬ (z = 0 ∨ s (6 + 5 * z + 3) ≠ 0 ∨ rb z = true)) : chainB (n + 1) s rb z = z :: chainB n s rb (par s z) := by rw [chainB, if_neg h]
theorem chainB_e {n : Nat} {s : S} {rb : Nat → Bool} {z : Nat} (h : z = 0 ∨ s (6 + 5 * z + 3) ≠ 0 ∨ rb z = true) : chainB n s rb z = [] := by
  cases n with
  | zero => rfl
  | succ n => rw [chainB, if_pos h]
theorem chain_lt {T : Int} {s : S} (h : IB T s) (rb : Nat → Bool) : ∀ (n z : Nat), z < 6 → ∀ q ∈ chainB n s rb z, 1 ≤ q ∧ q ≤ z
  | 0, _, _, q, hq => absurd hq List.not_mem_nil
  | n + 1, z, hz, q, hq => by
    by_cases c : z = 0 ∨ s (6 + 5 * z + 3) ≠ 0 ∨ rb z = true
    · rw [chainB_e c] at hq; exact absurd hq List.not_mem_nil
    · rw [chainB_s c] at hq
      have hp := IB_par h (z := z) (by omega) hz
      rcases List.mem_cons.mp hq with e | e
      · omega
      · have := chain_lt h rb n (par s z) (by omega) q e; omega
theorem maskF_lt : ∀ (L : List Nat) (m : Nat), m < 64 → (∀ q ∈ L, q < 6) → maskF L m < 64
  | [], m, hm, _ => hm
  | z :: L, m, hm, hL => maskF_lt L (m ||| 2 ^ z) (mask_lt hm (hL z List.mem_cons_self)) (fun q hq => hL q (List.mem_cons_of_mem _ hq))
theorem maskF_tb : ∀ (L : List Nat) (m q : Nat), (maskF L m).testBit q = (m.testBit q || decide (q ∈ L))
  | [], m, q => by simp [maskF]
  | z :: L, m, q => by
    show (maskF L (m ||| 2 ^ z)).testBit q = _
    rw [maskF_tb L, mask_tb]
    by_cases e : z = q
    · subst e; simp
    · have e' : ¬ q = z := fun h => e h.symm
      simp [e, e']
theorem come_chain {T : Int} : ∀ (n : Nat) {s : S} (_ : IB T s) {z : Nat} (_ : z < 6), come n s z 2 = s 2 + (chainB n s (fun _ => false) z).length ∧ (∀ q, q < 6 → (come n s z (6 + 5 * q + 3) = 0 ↔ s (6 + 5 * q + 3) = 0 ∧ q ∉ chainB n s (fun _ => false) z)) ∧ (∀ q, q < 6 → come n s z (6 + 5 * q) = s (6 + 5 * q))
  | 0, s, h, z, hz => ⟨by show s 2 = s 2 + ((0 : Nat) : Int); omega, fun q hq => by simp [come, chainB], fun q hq => rfl⟩
  | n + 1, s, h, z, hz => by
    by_cases c : z = 0 ∨ s (6 + 5 * z + 3) ≠ 0
    · rw [chainB_e (by rcases c with c | c; (· exact Or.inl c); (· exact Or.inr (Or.inl c)))]
      unfold come
      rw [if_pos c]
      exact ⟨by show s 2 = s 2 + ((0 : Nat) : Int); omega, fun q hq => by simp, fun q hq => rfl⟩
    · have hp := IB_par h (z := z) (by omega) hz
      obtain ⟨e2, e3, e0⟩ := come_chain n h (z := par s z) (by omega)
      have hB := IB_come (n := n) h (z := par s z) (by omega)
      have hno : z ∉ chainB n s (fun _ => false) (par s z) := fun hm => by have := chain_lt h (fun _ => false) n (par s z) (by omega) z hm; omega
      rw [chainB_s (by simp; omega)]
      unfold come
      rw [if_neg c]
      generalize chainB n s (fun _ => false) (par s z) = L at e2 e3 hno ⊢
      generalize come n s (par s z) = B at e2 e3 e0 hB ⊢
      generalize hpp : par s z = p at hp ⊢
      have hBp := hB.2.2.1 p (by omega)
      have hB0 := hB.1
      unfold zoneB at hBp
      refine ⟨?_, fun q hq => ?_, fun q hq => ?_⟩
      · unfold way2
        rw [up_ne _ _ (by omega), up_ne _ _ (by omega)]
        unfold costs
        rw [up_ne _ _ (by omega), up_eq, e2, List.length_cons]
        omega
      · by_cases e : q = z
        · subst e
          unfold way2
          rw [up_ne _ _ (by omega), up_eq, costs_ne (by omega) (by omega), costs_ne (by omega) (by omega)]
          constructor
          · intro h9; omega
          · intro h9; exact absurd List.mem_cons_self h9.2
        · rw [way2_ne (by omega) (by omega) (by omega) (by omega), e3 q hq]
          constructor
          · rintro ⟨a, b⟩; exact ⟨a, fun hm => by rcases List.mem_cons.mp hm with h9 | h9; (· exact e h9); (· exact b h9)⟩
          · rintro ⟨a, b⟩; exact ⟨a, fun hm => b (List.mem_cons_of_mem _ hm)⟩
      · rw [way2_ne (by omega) (by omega) (by omega) (by omega), e0 q hq]
/-- the class's way: zone by zone upwards -/
theorem desc_fold {st : S} (P : Nat → Nat) : ∀ (N : Nat) (L : List Nat), (∀ q ∈ L, q < N) → L.Pairwise (fun a b => b < a) → iter (fun s q => if q ∈ L then way2 s (P q) q else s) N st = L.foldr (fun z s => way2 s (P z) z) st
  | 0, L, h, _ => by
    cases L with
    | nil => rfl
    | cons a L => exact absurd (h a List.mem_cons_self) (by omega)
  | N + 1, L, h, hp => by
    show (if N ∈ L then _ else _) = _
    cases L with
    | nil =>
      rw [if_neg List.not_mem_nil]
      exact desc_fold P N [] (fun q hq => absurd hq List.not_mem_nil) List.Pairwise.nil
    | cons a L =>
      rw [List.pairwise_cons] at hp
      by_cases e : a = N
      · subst e
        rw [if_pos List.mem_cons_self]
        show way2 _ _ _ = way2 _ _ _
        congr 1
        rw [← desc_fold P a L (fun q hq => hp.1 q hq) hp.2]
        have : ∀ k, k ≤ a → iter (fun s q => if q ∈ a :: L then way2 s (P q) q else s) k st = iter (fun s q => if q ∈ L then way2 s (P q) q else s) k st := by
          intro k
          induction k with
          | zero => exact fun _ => rfl
          | succ k ih =>
            intro hk
            show (if k ∈ a :: L then _ else _) = (if k ∈ L then _ else _)
            rw [ih (by omega)]
            have : (k ∈ a :: L) ↔ k ∈ L := ⟨fun hm => by rcases List.mem_cons.mp hm with h9 | h9; (· omega); (· exact h9), fun hm => List.mem_cons_of_mem _ hm⟩
            by_cases c : k ∈ L
            · rw [if_pos c, if_pos (this.mpr c)]
            · rw [if_neg c, if_neg (fun h9 => c (this.mp h9))]
        exact this a (Nat.le_refl _)
      · have ha := h a List.mem_cons_self
        rw [if_neg (fun hm => by
          rcases List.mem_cons.mp hm with h9 | h9
          · exact e h9.symm
          · have := hp.1 N h9; omega)]
        refine desc_fold P N (a :: L) (fun q hq => ?_) (List.pairwise_cons.mpr hp)
        rcases List.mem_cons.mp hq with h9 | h9
        · omega
        · have := hp.1 q h9; omega
theorem chain_desc {T : Int} {s : S} (h : IB T s) : ∀ (n z : Nat), z < 6 → (chainB n s (fun _ => false) z).Pairwise (fun a b => b < a)
  | 0, _, _ => List.Pairwise.nil
  | n + 1, z, hz => by
    by_cases c : z = 0 ∨ s (6 + 5 * z + 3) ≠ 0 ∨ (fun _ : Nat => false) z = true
    · rw [chainB_e c]; exact List.Pairwise.nil
    · rw [chainB_s c]
      have hp := IB_par h (z := z) (by omega) hz
      exact List.pairwise_cons.mpr ⟨fun b hb => by have := chain_lt h _ n (par s z) (by omega) b hb; omega, chain_desc h n (par s z) (by omega)⟩
theorem come_foldr {T : Int} {s : S} (h : IB T s) : ∀ (n z : Nat), z < 6 → come n s z = (chainB n s (fun _ => false) z).foldr (fun z s' => way2 s' (par s z) z) s
  | 0, _, _ => rfl
  | n + 1, z, hz => by
    by_cases c : z = 0 ∨ s (6 + 5 * z + 3) ≠ 0
    · rw [chainB_e (by rcases c with c | c; (· exact Or.inl c); (· exact Or.inr (Or.inl c)))]
      unfold come; rw [if_pos c]; rfl
    · have hp := IB_par h (z := z) (by omega) hz
      rw [chainB_s (by simp; omega)]
      unfold come
      rw [if_neg c, come_foldr h n (par s z) (by omega)]
      rfl
theorem come_iter {T : Int} {s : S} (h : IB T s) {z : Nat} (hz : z < 6) : iter (fun s' q => if q ∈ chainB 6 s (fun _ => false) z then way2 s' (par s q) q else s') 6 s = come 6 s z := by
  rw [desc_fold (par s) 6 _ (fun q hq => by have := chain_lt h _ 6 z hz q hq; omega) (chain_desc h 6 z hz), come_foldr h 6 z hz]
/-- the state in the midst of asking: its parents are the first's, its ranges hold -/
theorem iter_way {T : Int} {s : S} (h : IB T s) (L : List Nat) (hL : ∀ q ∈ L, 1 ≤ q) : ∀ n, n ≤ 6 → IB T (iter (fun s' q => if q ∈ L then way2 s' (par s q) q else s') n s) ∧ (∀ q, q < 6 → iter (fun s' q => if q ∈ L then way2 s' (par s q) q else s') n s (6 + 5 * q) = s (6 + 5 * q))
  | 0, _ => ⟨h, fun _ _ => rfl⟩
  | n + 1, hn => by
    obtain ⟨a, b⟩ := iter_way h L hL n (by omega)
    show IB T (if n ∈ L then _ else _) ∧ ∀ q, q < 6 → (if n ∈ L then _ else _ : S) (6 + 5 * q) = _
    by_cases c : n ∈ L
    · have hp := IB_par h (z := n) (hL n c) (by omega)
      rw [if_pos c]
      refine ⟨IB_way2 a (by omega) ⟨hL n c, by omega⟩, fun q hq => ?_⟩
      rw [way2_ne (by omega) (by omega) (by omega) (by omega)]
      exact b q hq
    · rw [if_neg c]; exact ⟨a, b⟩
theorem chainB_eq {T : Int} {s st : S} (h : IB T st) {rb : Nat → Bool} (hp : ∀ q, q < 6 → s (6 + 5 * q) = st (6 + 5 * q)) (he : ∀ q, q < 6 → (s (6 + 5 * q + 3) = 0 ↔ st (6 + 5 * q + 3) = 0 ∧ rb q = false)) : ∀ n z, z < 6 → chainB n s (fun _ => false) z = chainB n st rb z
  | 0, _, _ => rfl
  | n + 1, z, hz => by
    have e1 := he z hz
    by_cases c : z = 0 ∨ st (6 + 5 * z + 3) ≠ 0 ∨ rb z = true
    · rw [chainB_e c, chainB_e]
      rcases c with c | c | c
      · exact Or.inl c
      · exact Or.inr (Or.inl (fun h9 => c (e1.mp h9).1))
      · refine Or.inr (Or.inl (fun h9 => ?_))
        have := (e1.mp h9).2
        rw [c] at this; cases this
    · have c2 : ¬ (z = 0 ∨ s (6 + 5 * z + 3) ≠ 0 ∨ (fun _ : Nat => false) z = true) := by
        rintro (h9 | h9 | h9)
        · exact c (Or.inl h9)
        · refine h9 (e1.mpr ⟨?_, ?_⟩)
          · exact Classical.not_not.mp (fun h8 => c (Or.inr (Or.inl h8)))
          · cases hr : rb z with
            | true => exact absurd (Or.inr (Or.inr hr)) c
            | false => rfl
        · cases h9
      rw [chainB_s c, chainB_s c2]
      have hpp : par s z = par st z := by unfold par; rw [hp z hz]
      have := IB_par h (z := z) (by omega) hz
      rw [hpp, chainB_eq h hp he n (par st z) (by omega)]
/-! what a forecast knows of a state in the midst of solving -/
def Rel (T : Int) (st s : S) (m hm : Nat) : Prop := IB T s ∧ (∀ q, q < 6 → s (6 + 5 * q) = st (6 + 5 * q)) ∧ (∀ q, q < 6 → (s (6 + 5 * q + 3) = 0 ↔ st (6 + 5 * q + 3) = 0 ∧ m.testBit q = false)) ∧
  ∀ r, r < 36 → (s (36 + 6 * r) = st (36 + 6 * r) ∧ s (36 + 6 * r + 1) = st (36 + 6 * r + 1)) ∧ (s (36 + 6 * r + 3) = 0 ↔ st (36 + 6 * r + 3) = 0 ∧ hm.testBit r = false) ∧ kV s r = kV st r ∧ vV s r = vV st r
theorem Rel_0 {T : Int} {st : S} (h : IB T st) : Rel T st st 0 0 := ⟨h, fun _ _ => rfl, fun q hq => by simp, fun r hr => ⟨⟨rfl, rfl⟩, by simp, rfl, rfl⟩⟩
theorem Rel_hit {T : Int} {st s : S} {m hm : Nat} (h : Rel T st s m hm) {r : Nat} (hk : ¬ s (36 + 6 * r + 3) = 0) : Rel T st (take s r) m hm ∧ take s r 2 = s 2 := by
  obtain ⟨a, b, c, d⟩ := h
  rw [take_neg hk]
  refine ⟨⟨IB_free a 3 _ (by omega), fun q hq => by rw [up_ne _ _ (by omega)]; exact b q hq, fun q hq => by rw [up_ne _ _ (by omega)]; exact c q hq, fun q hq => ?_⟩, up_ne _ _ (by omega)⟩
  have e := d q hq
  unfold kV vV at e ⊢
  rw [up_ne _ _ (by omega), up_ne _ _ (by omega), up_ne _ _ (by omega), up_ne _ _ (by omega)]
  exact e
theorem asks_z {T : Int} {s : S} (h : IB T s) {r : Nat} (hr : r < 36) : asks s r 2 = s 2 + (chainB 6 s (fun _ => false) (r / 6)).length + 1 ∧ (∀ q, q < 6 → (asks s r (6 + 5 * q + 3) = 0 ↔ s (6 + 5 * q + 3) = 0 ∧ q ∉ chainB 6 s (fun _ => false) (r / 6))) ∧ ∀ q, q < 6 → asks s r (6 + 5 * q) = s (6 + 5 * q) := by
  have hz : r / 6 < 6 := by omega
  obtain ⟨e2, e3, e0⟩ := come_chain 6 h hz
  unfold asks
  rw [hold_eq _ _ _ hr hz]
  generalize chainB 6 s (fun _ => false) (r / 6) = L at e2 e3 ⊢
  refine ⟨?_, fun q hq => ?_, fun q hq => ?_⟩
  · rw [up_ne _ _ (by omega), up_ne _ _ (by omega), up_ne _ _ (by omega), up_ne _ _ (by omega)]
    unfold costs
    rw [up_ne _ _ (by omega), up_eq, e2]
  · rw [up_ne _ _ (by omega), up_ne _ _ (by omega), up_ne _ _ (by omega), up_ne _ _ (by omega), costs_ne (by omega) (by omega)]
    exact e3 q hq
  · rw [up_ne _ _ (by omega), up_ne _ _ (by omega), up_ne _ _ (by omega), up_ne _ _ (by omega), costs_ne (by omega) (by omega)]
    exact e0 q hq
theorem Rel_ask {T : Int} {st s : S} {m hm : Nat} (hst : IB T st) (h : Rel T st s m hm) {r : Nat} (hr : r < 36) (hk : s (36 + 6 * r + 3) = 0) :
    Rel T st (take s r) (maskF (chainB 6 st m.testBit (r / 6)) m) (hm ||| 2 ^ r) ∧ take s r 2 = s 2 + (chainB 6 st m.testBit (r / 6)).length + 1 := by
  obtain ⟨a, b, c, d⟩ := h
  have hz : r / 6 < 6 := by omega
  have hc := chainB_eq hst b c 6 (r / 6) hz
  obtain ⟨e2, e3, e0⟩ := asks_z a hr
  rw [hc] at e2 e3
  have hv : ∀ q, q < 36 → _ := fun q hq => take_view a hr (q := q) hq
  have hB := IB_take a hr
  have hq9 : ∀ q, q < 36 → _ := fun q hq => asks_k a hr (q := q) hq
  rw [take_pos hk] at hv hB ⊢
  refine ⟨⟨hB, fun q hq => (e0 q hq).trans (b q hq), fun q hq => ?_, fun q hq => ?_⟩, e2⟩
  · rw [e3 q hq, c q hq, maskF_tb]
    by_cases e : q ∈ chainB 6 st m.testBit (r / 6)
    · simp [e]
    · simp [e]
  · obtain ⟨k0, k1, -, k3, -⟩ := hq9 q hq
    obtain ⟨v1, v2⟩ := hv q hq
    obtain ⟨⟨d0, d1⟩, d3, d4, d5⟩ := d q hq
    refine ⟨⟨k0.trans d0, k1.trans d1⟩, ?_, v1.trans d4, v2.trans d5⟩
    rw [k3, mask_tb]
    by_cases e : q = r
    · subst e
      rw [if_pos rfl]
      have hne : ¬ (if s (36 + 6 * q) = 0 then (3 : Int) else s (36 + 6 * q)) = 0 := by split <;> omega
      constructor
      · intro h9; exact absurd h9 hne
      · intro h9; simp at h9
    · have e' : ¬ r = q := fun h9 => e h9.symm
      rw [if_neg e, d3]
      simp [e']
