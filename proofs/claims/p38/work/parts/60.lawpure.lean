/-! the law's own picture of a state: six int arrays q z r a m e -/
def eT (k v : Int) : Int := if k = 0 then 0 else 1000 * k + v
def eM (k v : Int) : Int := if k = 0 then 0 else if k = 3 then 3000 else 1000 * k + v
def LR (st q z r a m e : S) : Prop :=
  (∀ j, j < 6 → q j = st j) ∧ (∀ j, j < 30 → z j = st (6 + j)) ∧ ∀ k, k < 36 → (r k = eT (st (36 + 6 * k)) (st (36 + 6 * k + 1)) ∧ (st (36 + 6 * k) ≠ 0 → a k = st (36 + 6 * k + 2))) ∧ m k = eM (st (36 + 6 * k + 3)) (st (36 + 6 * k + 4)) ∧ (st (36 + 6 * k + 3) ≠ 0 → e k = st (36 + 6 * k + 5))
theorem LR_ext {st st' q z r a m e : S} (h : LR st q z r a m e) (hs : ∀ j, j < 252 → st j = st' j) : LR st' q z r a m e := by
  obtain ⟨h1, h2, h3⟩ := h
  refine ⟨fun j hj => by rw [← hs j (by omega)]; exact h1 j hj, fun j hj => by rw [← hs _ (by omega)]; exact h2 j hj, fun k hk => ?_⟩
  rw [← hs _ (by omega), ← hs _ (by omega), ← hs _ (by omega), ← hs _ (by omega), ← hs _ (by omega), ← hs _ (by omega)]
  exact h3 k hk
theorem LR_arr {st q z r a m e q' z' r' a' m' e' : S} (h : LR st q z r a m e) (hq : ∀ j, j < 6 → q' j = q j) (hz : ∀ j, j < 30 → z' j = z j) (hr : ∀ j, j < 36 → r' j = r j) (ha : ∀ j, j < 36 → a' j = a j) (hm : ∀ j, j < 36 → m' j = m j) (he : ∀ j, j < 36 → e' j = e j) : LR st q' z' r' a' m' e' := by
  obtain ⟨h1, h2, h3⟩ := h
  refine ⟨fun j hj => by rw [hq j hj]; exact h1 j hj, fun j hj => by rw [hz j hj]; exact h2 j hj, fun k hk => ?_⟩
  rw [hr k hk, ha k hk, hm k hk, he k hk]
  exact h3 k hk
theorem LR_q {st q z r a m e : S} (h : LR st q z r a m e) {i : Nat} (hi : i < 6) {v w : Int} (hv : v = w) : LR (up st i w) (up q i v) z r a m e := by
  subst hv
  obtain ⟨h1, h2, h3⟩ := h
  have g : ∀ j, j ≠ i → up st i v j = st j := fun j hj => up_ne _ _ hj
  refine ⟨fun j hj => ?_, fun j hj => ?_, fun k hk => ?_⟩
  · by_cases c : j = i
    · subst c; rw [up_eq, up_eq]
    · rw [g _ c, up_ne _ _ c]; exact h1 j hj
  · rw [g _ (by omega)]; exact h2 j hj
  · rw [g (36 + 6 * k) (by omega), g (36 + 6 * k + 1) (by omega), g (36 + 6 * k + 2) (by omega), g (36 + 6 * k + 3) (by omega), g (36 + 6 * k + 4) (by omega), g (36 + 6 * k + 5) (by omega)]
    exact h3 k hk
theorem LR_z {st q z r a m e : S} (h : LR st q z r a m e) {i j0 : Nat} (hi : i < 30) (hj0 : j0 = 6 + i) {v w : Int} (hv : v = w) : LR (up st j0 w) q (up z i v) r a m e := by
  subst hv hj0
  obtain ⟨h1, h2, h3⟩ := h
  have g : ∀ j, j ≠ 6 + i → up st (6 + i) v j = st j := fun j hj => up_ne _ _ hj
  refine ⟨fun j hj => ?_, fun j hj => ?_, fun k hk => ?_⟩
  · rw [g _ (by omega)]; exact h1 j hj
  · by_cases c : j = i
    · subst c; rw [up_eq, up_eq]
    · rw [g _ (by omega), up_ne _ _ c]; exact h2 j hj
  · rw [g (36 + 6 * k) (by omega), g (36 + 6 * k + 1) (by omega), g (36 + 6 * k + 2) (by omega), g (36 + 6 * k + 3) (by omega), g (36 + 6 * k + 4) (by omega), g (36 + 6 * k + 5) (by omega)]
    exact h3 k hk
theorem LR_t {st q z r a m e a' : S} (h : LR st q z r a m e) {k : Nat} (hk : k < 36) {kk v u x : Int} (hx : x = eT kk v) (ha : ∀ j, j ≠ k → a' j = a j) (hau : kk ≠ 0 → a' k = u) : LR (up (up (up st (36 + 6 * k) kk) (36 + 6 * k + 1) v) (36 + 6 * k + 2) u) q z (up r k x) a' m e := by
  subst hx
  obtain ⟨h1, h2, h3⟩ := h
  have g : ∀ j, j ≠ 36 + 6 * k → j ≠ 36 + 6 * k + 1 → j ≠ 36 + 6 * k + 2 → up (up (up st (36 + 6 * k) kk) (36 + 6 * k + 1) v) (36 + 6 * k + 2) u j = st j := fun j h1 h2 h3 => by rw [up_ne _ _ h3, up_ne _ _ h2, up_ne _ _ h1]
  have e0 : up (up (up st (36 + 6 * k) kk) (36 + 6 * k + 1) v) (36 + 6 * k + 2) u (36 + 6 * k) = kk := by rw [up_ne _ _ (by omega), up_ne _ _ (by omega), up_eq]
  have e1 : up (up (up st (36 + 6 * k) kk) (36 + 6 * k + 1) v) (36 + 6 * k + 2) u (36 + 6 * k + 1) = v := by rw [up_ne _ _ (by omega), up_eq]
  have e2 : up (up (up st (36 + 6 * k) kk) (36 + 6 * k + 1) v) (36 + 6 * k + 2) u (36 + 6 * k + 2) = u := by rw [up_eq]
  generalize up (up (up st (36 + 6 * k) kk) (36 + 6 * k + 1) v) (36 + 6 * k + 2) u = s' at g e0 e1 e2 ⊢
  refine ⟨fun j hj => ?_, fun j hj => ?_, fun i hi => ?_⟩
  · rw [g _ (by omega) (by omega) (by omega)]; exact h1 j hj
  · rw [g _ (by omega) (by omega) (by omega)]; exact h2 j hj
  · rw [g (36 + 6 * i + 3) (by omega) (by omega) (by omega), g (36 + 6 * i + 4) (by omega) (by omega) (by omega), g (36 + 6 * i + 5) (by omega) (by omega) (by omega)]
    refine ⟨?_, (h3 i hi).2⟩
    by_cases c : i = k
    · subst c; rw [e0, e1, e2, up_eq]; exact ⟨rfl, hau⟩
    · rw [g (36 + 6 * i) (by omega) (by omega) (by omega), g (36 + 6 * i + 1) (by omega) (by omega) (by omega), g (36 + 6 * i + 2) (by omega) (by omega) (by omega), up_ne _ _ c, ha i c]; exact (h3 i hi).1
theorem LR_m {st q z r a m e e' : S} (h : LR st q z r a m e) {k : Nat} (hk : k < 36) {kk v u x : Int} (hx : x = eM kk v) (ha : ∀ j, j ≠ k → e' j = e j) (hau : kk ≠ 0 → e' k = u) : LR (up (up (up st (36 + 6 * k + 3) kk) (36 + 6 * k + 4) v) (36 + 6 * k + 5) u) q z r a (up m k x) e' := by
  subst hx
  obtain ⟨h1, h2, h3⟩ := h
  have g : ∀ j, j ≠ 36 + 6 * k + 3 → j ≠ 36 + 6 * k + 4 → j ≠ 36 + 6 * k + 5 → up (up (up st (36 + 6 * k + 3) kk) (36 + 6 * k + 4) v) (36 + 6 * k + 5) u j = st j := fun j h1 h2 h3 => by rw [up_ne _ _ h3, up_ne _ _ h2, up_ne _ _ h1]
  have e0 : up (up (up st (36 + 6 * k + 3) kk) (36 + 6 * k + 4) v) (36 + 6 * k + 5) u (36 + 6 * k + 3) = kk := by rw [up_ne _ _ (by omega), up_ne _ _ (by omega), up_eq]
  have e1 : up (up (up st (36 + 6 * k + 3) kk) (36 + 6 * k + 4) v) (36 + 6 * k + 5) u (36 + 6 * k + 4) = v := by rw [up_ne _ _ (by omega), up_eq]
  have e2 : up (up (up st (36 + 6 * k + 3) kk) (36 + 6 * k + 4) v) (36 + 6 * k + 5) u (36 + 6 * k + 5) = u := by rw [up_eq]
  generalize up (up (up st (36 + 6 * k + 3) kk) (36 + 6 * k + 4) v) (36 + 6 * k + 5) u = s' at g e0 e1 e2 ⊢
  refine ⟨fun j hj => ?_, fun j hj => ?_, fun i hi => ?_⟩
  · rw [g _ (by omega) (by omega) (by omega)]; exact h1 j hj
  · rw [g _ (by omega) (by omega) (by omega)]; exact h2 j hj
  · rw [g (36 + 6 * i) (by omega) (by omega) (by omega), g (36 + 6 * i + 1) (by omega) (by omega) (by omega), g (36 + 6 * i + 2) (by omega) (by omega) (by omega)]
    refine ⟨(h3 i hi).1, ?_⟩
    by_cases c : i = k
    · subst c; rw [e0, e1, e2, up_eq]; exact ⟨rfl, hau⟩
    · rw [g (36 + 6 * i + 3) (by omega) (by omega) (by omega), g (36 + 6 * i + 4) (by omega) (by omega) (by omega), g (36 + 6 * i + 5) (by omega) (by omega) (by omega), up_ne _ _ c, ha i c]; exact (h3 i hi).2
theorem LR_q9 {st q z r a m e : S} (h : LR st q z r a m e) {i : Nat} (hi : i < 6) : q i = st i := h.1 i hi
theorem LR_z9 {st q z r a m e : S} (h : LR st q z r a m e) {i : Nat} (hi : i < 30) : z i = st (6 + i) := h.2.1 i hi
theorem LR_costs {st q z r a m e : S} (h : LR st q z r a m e) {p : Nat} (hp : p < 6) : LR (costs st p) (up q 2 (q 2 + 1)) (up z (5 * p + 4) (z (5 * p + 4) + 1)) r a m e := by
  have h0 := LR_q h (i := 2) (by omega) (v := q 2 + 1) (w := st 2 + 1) (by rw [h.1 2 (by omega)])
  exact LR_z h0 (i := 5 * p + 4) (j0 := 6 + 5 * p + 4) (by omega) (by omega) (by rw [h0.2.1 (5 * p + 4) (by omega), show 6 + (5 * p + 4) = 6 + 5 * p + 4 by omega])
theorem LR_way {st q z r a m e : S} (h : LR st q z r a m e) {p y : Nat} (hp : p < 6) (hy : y < 6) : LR (way2 st p y) (up (up q 2 (q 2 + 1)) 4 (up q 2 (q 2 + 1) 4 + 1)) (up (up z (5 * p + 4) (z (5 * p + 4) + 1)) (5 * y + 3) (up (up q 2 (q 2 + 1)) 4 (up q 2 (q 2 + 1) 4 + 1) 0 + up z (5 * p + 4) (z (5 * p + 4) + 1) (5 * p + 1))) r a m e := by
  have h1 := LR_costs h hp
  have h2 := LR_z h1 (i := 5 * y + 3) (j0 := 6 + 5 * y + 3) (by omega) (by omega) (v := up (up q 2 (q 2 + 1)) 4 (up q 2 (q 2 + 1) 4 + 1) 0 + up z (5 * p + 4) (z (5 * p + 4) + 1) (5 * p + 1)) (w := costs st p 0 + costs st p (6 + 5 * p + 1)) (by
    rw [up_ne (up q 2 (q 2 + 1)) (k := 4) (j := 0) _ (by omega), h1.1 0 (by omega), h1.2.1 (5 * p + 1) (by omega), show 6 + (5 * p + 1) = 6 + 5 * p + 1 by omega])
  exact LR_q h2 (i := 4) (by omega) (by rw [h2.1 4 (by omega)])
theorem eT_0 {T : Int} {st q z r a m e : S} (h : LR st q z r a m e) (hI : IB T st) {k : Nat} (hk : k < 36) : (r k = 0 ↔ st (36 + 6 * k) = 0) ∧ 0 ≤ r k ∧ r k < 3000 ∧ (r k < 2000 ↔ st (36 + 6 * k) ≠ 2) ∧ (st (36 + 6 * k) ≠ 0 → r k = 1000 * st (36 + 6 * k) + st (36 + 6 * k + 1)) := by
  have h1 := (h.2.2 k hk).1.1
  have h2 := (hI.2.2.2 k hk).1
  unfold triT at h2
  unfold eT at h1
  split at h1 <;> omega
theorem eM_0 {T : Int} {st q z r a m e : S} (h : LR st q z r a m e) (hI : IB T st) {k : Nat} (hk : k < 36) : (m k = 0 ↔ st (36 + 6 * k + 3) = 0) ∧ 0 ≤ m k ∧ m k ≤ 3000 ∧ (3000 ≤ m k ↔ st (36 + 6 * k + 3) = 3) ∧ (m k < 2000 ↔ st (36 + 6 * k + 3) < 2) ∧ (st (36 + 6 * k + 3) ≠ 0 → st (36 + 6 * k + 3) ≠ 3 → m k = 1000 * st (36 + 6 * k + 3) + st (36 + 6 * k + 4)) ∧ (st (36 + 6 * k + 3) = 3 → m k = 3000) := by
  have h1 := (h.2.2 k hk).2.1
  have h2 := (hI.2.2.2 k hk).2
  unfold triM at h2
  unfold eM at h1
  split at h1
  · omega
  · split at h1 <;> omega
theorem LR_hold {T : Int} {st q z r a m e : S} (h : LR st q z r a m e) (hI : IB T st) {k : Nat} (hk : k < 36) {x y : Int} (hx : x = if r k = 0 then 3000 else r k) (hy : y = q 0 + (if r k = 0 then z (5 * (k / 6) + 2) else a k)) : LR (hold st k (k / 6)) (up q 4 (q 4 + 1)) z r a (up m k x) (up e k y) := by
  rw [hold_eq st k (k / 6) hk (by omega)]
  have h1 := (h.2.2 k hk).1
  have hr := eT_0 h hI hk
  have hb := (hI.2.2.2 k hk).1
  unfold triT at hb
  refine LR_q (LR_m h hk ?_ (fun j hj => up_ne _ _ hj) (fun _ => ?_)) (i := 4) (by omega) ?_
  · rw [hx]
    unfold eM
    by_cases c : st (36 + 6 * k) = 0
    · rw [if_pos (hr.1.mpr c), if_pos c, if_neg (by omega), if_pos rfl]
    · rw [if_neg (fun d => c (hr.1.mp d)), if_neg c, if_neg (by omega), if_neg (by omega)]
      exact hr.2.2.2.2 c
  · rw [up_eq, hy, h.1 0 (by omega)]
    by_cases c : st (36 + 6 * k) = 0
    · rw [if_pos (hr.1.mpr c), if_pos c, h.2.1 _ (by omega), show 6 + (5 * (k / 6) + 2) = 6 + 5 * (k / 6) + 2 by omega]
    · rw [if_neg (fun d => c (hr.1.mp d)), if_neg c, h1.2 c]
  · rw [h.1 4 (by omega)]
/-- the chain of zones in a state with the same parents -/
theorem cs_s (st : S) (z n : Nat) : cs st z (n + 1) = par st (cs st z n) := rfl
theorem cs_lt {T : Int} {st : S} (h : IB T st) {z : Nat} (hz : z < 6) {i : Nat} (hj : ∀ j, j < i → cs st z j ≠ 0) : cs st z i < 6 := by
  have := cs_le h hz i hj
  omega
theorem forg_5 (st : S) (r : Nat) (y : Int) (hr : r < 36) : up (forg st r) 5 y = up (up (up (up st 5 y) (36 + 6 * r + 3) 0) (36 + 6 * r + 4) 0) (36 + 6 * r + 5) 0 := by
  funext j
  unfold forg forg3 up
  repeat' split
  all_goals first | rfl | omega
theorem passZ_5 (st : S) (z : Nat) (x y : Int) (hz : z < 6) : up (up (up st (6 + 5 * z + 3) 0) 5 x) 5 y = up (up st 5 y) (6 + 5 * z + 3) 0 := by
  funext j
  unfold up
  repeat' split
  all_goals first | rfl | omega
theorem up_up5 (st : S) (x y : Int) : up (up st 5 x) 5 y = up st 5 y := by
  funext j
  unfold up
  split <;> rfl
theorem up_self (st : S) (i : Nat) : up st i (st i) = st := by
  funext j
  unfold up
  split
  · rename_i h; rw [h]
  · rfl
/-! forecasts at once: nothing is forgotten at a tick of 0 -/
theorem passes_0 {T : Int} {st : S} (hI : IB T st) (hT : IT st) : passes st 0 = st := by
  have e0 : up st 0 (st 0 + 0) = st := by rw [Int.add_zero, up_self]
  have hz : ∀ n, n ≤ 6 → iter passZ n st = st := by
    intro n
    induction n with
    | zero => exact fun _ => rfl
    | succ n ih =>
      intro hn
      show passZ (iter passZ n st) n = st
      rw [ih (by omega)]
      unfold passZ
      rw [if_neg]
      have := hT.1 n (by omega)
      omega
  have hr : ∀ n, n ≤ 36 → iter passR n st = st := by
    intro n
    induction n with
    | zero => exact fun _ => rfl
    | succ n ih =>
      intro hn
      show passR (iter passR n st) n = st
      rw [ih (by omega)]
      unfold passR
      rw [if_neg]
      have := hT.2 n (by omega)
      omega
  show iter passR 36 (iter passZ 6 (up st 0 (st 0 + 0))) = st
  rw [e0, hz 6 (Nat.le_refl _), hr 36 (Nat.le_refl _)]
/-! the accounts: what is remembered is what came less what went -/
def AC (st : S) : Prop := memo st = st 4 - st 5
theorem sumN_ext {f g : Nat → Int} : ∀ n, (∀ i, i < n → f i = g i) → sumN f n = sumN g n
  | 0, _ => rfl
  | n + 1, h => by
    show sumN f n + f n = sumN g n + g n
    rw [sumN_ext n (fun i hi => h i (by omega)), h n (by omega)]
theorem sumN_one {f g : Nat → Int} {k : Nat} : ∀ n, k < n → (∀ i, i < n → i ≠ k → f i = g i) → sumN f n = sumN g n + (f k - g k)
  | 0, h, _ => absurd h (by omega)
  | n + 1, hk, h => by
    show sumN f n + f n = sumN g n + g n + (f k - g k)
    by_cases c : k = n
    · subst c
      rw [sumN_ext k (fun i hi => h i (by omega) (by omega))]
      omega
    · rw [sumN_one n (by omega) (fun i hi hik => h i (by omega) hik), h n (by omega) (by omega)]
      omega
def bz (st : S) (z : Nat) : Int := if 0 < st (6 + 5 * z + 3) then 1 else 0
def br (st : S) (r : Nat) : Int := if 0 < st (36 + 6 * r + 5) then 1 else 0
theorem memo_b (st : S) : memo st = sumN (bz st) 6 + sumN (br st) 36 := rfl
theorem AC_same {st st' : S} (h : AC st) (h4 : st' 4 = st 4) (h5 : st' 5 = st 5) (hz : ∀ z, z < 6 → st' (6 + 5 * z + 3) = st (6 + 5 * z + 3)) (hr : ∀ r, r < 36 → st' (36 + 6 * r + 5) = st (36 + 6 * r + 5)) : AC st' := by
  unfold AC at h ⊢
  rw [memo_b] at h ⊢
  rw [h4, h5, ← h, sumN_ext (f := bz st') (g := bz st) 6 (fun z hz' => by unfold bz; rw [hz z hz']), sumN_ext (f := br st') (g := br st) 36 (fun r hr' => by unfold br; rw [hr r hr'])]
theorem AC_zone {st st' : S} {z : Nat} {d c w : Int} (h : AC st) (hz0 : z < 6) (h4 : st' 4 = st 4 + c) (h5 : st' 5 = st 5 + w) (hd : bz st' z = bz st z + d) (hdc : d = c - w) (hz : ∀ y, y < 6 → y ≠ z → st' (6 + 5 * y + 3) = st (6 + 5 * y + 3)) (hr : ∀ r, r < 36 → st' (36 + 6 * r + 5) = st (36 + 6 * r + 5)) : AC st' := by
  unfold AC at h ⊢
  rw [memo_b] at h ⊢
  rw [h4, h5, sumN_one (f := bz st') (g := bz st) (k := z) 6 hz0 (fun y hy hyz => by unfold bz; rw [hz y hy hyz]), sumN_ext (f := br st') (g := br st) 36 (fun r hr' => by unfold br; rw [hr r hr'])]
  omega
theorem AC_riddle {st st' : S} {r : Nat} {d c w : Int} (h : AC st) (hr0 : r < 36) (h4 : st' 4 = st 4 + c) (h5 : st' 5 = st 5 + w) (hd : br st' r = br st r + d) (hdc : d = c - w) (hz : ∀ y, y < 6 → st' (6 + 5 * y + 3) = st (6 + 5 * y + 3)) (hr : ∀ y, y < 36 → y ≠ r → st' (36 + 6 * y + 5) = st (36 + 6 * y + 5)) : AC st' := by
  unfold AC at h ⊢
  rw [memo_b] at h ⊢
  rw [h4, h5, sumN_ext (f := bz st') (g := bz st) 6 (fun y hy => by unfold bz; rw [hz y hy]), sumN_one (f := br st') (g := br st) (k := r) 36 hr0 (fun y hy hyr => by unfold br; rw [hr y hy hyr])]
  omega
theorem AC_costs {st : S} (h : AC st) {p : Nat} (hp : p < 6) : AC (costs st p) := by
  refine AC_same h (costs_ne (by omega) (by omega)) (costs_ne (by omega) (by omega)) (fun z hz => costs_ne (by omega) (by omega)) (fun r hr => costs_ne (by omega) (by omega))
theorem AC_way2 {T : Int} {st : S} (hI : IB T st) (h : AC st) {p y : Nat} (hp : p < 6) (hy : y < 6) (h0 : st (6 + 5 * y + 3) = 0) : AC (way2 st p y) := by
  have hz := hI.2.2.1 p hp
  have ht := hI.1
  unfold zoneB at hz
  have e3 : way2 st p y (6 + 5 * y + 3) = st 0 + st (6 + 5 * p + 1) := by
    unfold way2
    rw [up_ne _ _ (by omega), up_eq, costs_ne (by omega) (by omega), costs_ne (by omega) (by omega)]
  refine AC_zone (st := st) (z := y) (d := 1) (c := 1) (w := 0) h hy ?_ ?_ ?_ (by omega) (fun x hx hxy => ?_) (fun r hr => ?_)
  · unfold way2
    rw [up_eq, up_ne _ _ (by omega), costs_ne (by omega) (by omega)]
  · rw [way2_ne (by omega) (by omega) (by omega) (by omega)]; omega
  · unfold bz
    rw [e3, h0, if_pos (by omega), if_neg (by omega)]; rfl
  · rw [way2_ne (by omega) (by omega) (by omega) (by omega)]
  · rw [way2_ne (by omega) (by omega) (by omega) (by omega)]
theorem AC_come {T : Int} : ∀ (n : Nat) {st : S} (_ : IB T st) (_ : AC st) {z : Nat} (_ : z < 6), AC (come n st z)
  | 0, _, _, h, _, _ => h
  | n + 1, st, hI, h, z, hz => by
    unfold come
    split
    · exact h
    · rename_i c
      have hp := IB_par hI (z := z) (by omega) hz
      have hc := come_chain n hI (z := par st z) (by omega)
      have hno : z ∉ chainB n st (fun _ => false) (par st z) := fun hm => by have := chain_lt hI (fun _ => false) n (par st z) (by omega) z hm; omega
      exact AC_way2 (IB_come hI (by omega)) (AC_come n hI h (by omega)) (by omega) hz (((hc.2.1 z hz).mpr ⟨by omega, hno⟩))
theorem AC_hold {T : Int} {st : S} (hI : IB T st) (h : AC st) {r z : Nat} (hr : r < 36) (hz : z < 6) (h0 : st (36 + 6 * r + 3) = 0) : AC (hold st r z) := by
  have hm := (hI.2.2.2 r hr).2
  have hb := (hI.2.2.2 r hr).1
  have hzb := hI.2.2.1 z hz
  have ht := hI.1
  unfold triM at hm; unfold triT at hb; unfold zoneB at hzb
  rw [hold_eq st r z hr hz]
  refine AC_riddle (st := st) (r := r) (d := 1) (c := 1) (w := 0) h hr ?_ ?_ ?_ (by omega) (fun x hx => ?_) (fun x hx hxy => ?_)
  · rw [up_eq]
  · rw [up_ne _ _ (by omega), up_ne _ _ (by omega), up_ne _ _ (by omega), up_ne _ _ (by omega)]; omega
  · unfold br
    rw [up_ne _ _ (by omega), up_eq, if_neg (show ¬ 0 < st (36 + 6 * r + 5) by omega), if_pos (by split <;> omega)]; rfl
  · rw [up_ne _ _ (by omega), up_ne _ _ (by omega), up_ne _ _ (by omega), up_ne _ _ (by omega)]
  · rw [up_ne _ _ (by omega), up_ne _ _ (by omega), up_ne _ _ (by omega), up_ne _ _ (by omega)]
theorem AC_take {T : Int} {st : S} (hI : IB T st) (h : AC st) {r : Nat} (hr : r < 36) : AC (take st r) := by
  unfold take
  split
  · rename_i c
    have hc := IB_come hI (n := 6) (z := r / 6) (by omega)
    have hall := come_all 6 hI (z := r / 6) (by omega)
    refine AC_hold (IB_costs hc (by omega)) (AC_costs (AC_come 6 hI h (by omega)) (by omega)) hr (by omega) ?_
    rw [costs_ne (by omega) (by omega), hall.2 _ (by omega) (by omega) (fun p hp => by omega)]
    exact c
  · exact AC_same h (up_ne _ _ (by omega)) (up_ne _ _ (by omega)) (fun z hz => up_ne _ _ (by omega)) (fun z hz => up_ne _ _ (by omega))
theorem AC_solvesF {T : Int} : ∀ (n : Nat) {st : S} (_ : IB T st) (_ : AC st) {r : Nat} (_ : r < 36), AC (solvesF n st r).1
  | 0, _, _, h, _, _ => h
  | n + 1, st, hI, h, r, hr => by
    have hb := IB_take hI hr
    have ht := AC_take hI h hr
    unfold solvesF
    split
    · rename_i hc
      exact AC_solvesF n hb ht (IB_next hb hr hc).2
    · exact ht
theorem AC_solve1 {T : Int} {st : S} (hI : IB T st) (h : AC st) {r : Nat} (hr : r < 36) : AC (solve1 st r).1 :=
  AC_solvesF 7 (IB_free hI 1 _ (by omega)) (AC_same h (up_ne _ _ (by omega)) (up_ne _ _ (by omega)) (fun z hz => up_ne _ _ (by omega)) (fun z hz => up_ne _ _ (by omega))) hr
theorem AC_forg {T : Int} {st : S} (hI : IB T st) (h : AC st) {r : Nat} (hr : r < 36) (h0 : st (36 + 6 * r + 3) ≠ 0) : AC (forg st r) := by
  have hm := (hI.2.2.2 r hr).2
  unfold triM at hm
  unfold forg forg3
  refine AC_riddle (st := st) (r := r) (d := -1) (c := 0) (w := 1) h hr ?_ ?_ ?_ (by omega) (fun x hx => ?_) (fun x hx hxy => ?_)
  · rw [up_ne _ _ (by omega), up_ne _ _ (by omega), up_ne _ _ (by omega), up_ne _ _ (by omega)]; omega
  · rw [up_eq, up_ne _ _ (by omega), up_ne _ _ (by omega), up_ne _ _ (by omega)]
  · unfold br
    rw [up_ne _ _ (by omega), up_eq, if_pos (show 0 < st (36 + 6 * r + 5) by omega), if_neg (by omega)]; rfl
  · rw [up_ne _ _ (by omega), up_ne _ _ (by omega), up_ne _ _ (by omega), up_ne _ _ (by omega)]
  · rw [up_ne _ _ (by omega), up_ne _ _ (by omega), up_ne _ _ (by omega), up_ne _ _ (by omega)]
theorem AC_passZ {st : S} (h : AC st) {z : Nat} (hz : z < 6) : AC (passZ st z) := by
  unfold passZ
  split
  · rename_i c
    refine AC_zone (st := st) (z := z) (d := -1) (c := 0) (w := 1) h hz ?_ ?_ ?_ (by omega) (fun x hx hxy => ?_) (fun r hr => ?_)
    · rw [up_ne _ _ (by omega), up_ne _ _ (by omega)]; omega
    · rw [up_eq, up_ne _ _ (by omega)]
    · unfold bz
      rw [up_ne _ _ (by omega), up_eq, if_pos c.1, if_neg (by omega)]; rfl
    · rw [up_ne _ _ (by omega), up_ne _ _ (by omega)]
    · rw [up_ne _ _ (by omega), up_ne _ _ (by omega)]
  · exact h
theorem AC_passR {T : Int} {st : S} (hI : IB T st) (h : AC st) {r : Nat} (hr : r < 36) : AC (passR st r) := by
  unfold passR
  split
  · rename_i c; exact AC_forg hI h hr c.1
  · exact h
theorem AC_passes {T : Int} {st : S} (hI : IB T st) (h : AC st) {t : Int} (ht : 0 ≤ t) (U : Int) (hU : T + t ≤ U ∧ U ≤ 100000) : AC (passes st t) := by
  have h0 := hI.1
  have h1 : IB U (up st 0 (st 0 + t)) := IB_time hI _ (by omega) U (by omega)
  have h2 : AC (up st 0 (st 0 + t)) := AC_same h (up_ne _ _ (by omega)) (up_ne _ _ (by omega)) (fun z hz => up_ne _ _ (by omega)) (fun z hz => up_ne _ _ (by omega))
  have hz : ∀ n, n ≤ 6 → IB U (iter passZ n (up st 0 (st 0 + t))) ∧ AC (iter passZ n (up st 0 (st 0 + t))) := by
    intro n
    induction n with
    | zero => exact fun _ => ⟨h1, h2⟩
    | succ n ih => exact fun hn => ⟨IB_passZ (ih (by omega)).1 (by omega), AC_passZ (ih (by omega)).2 (by omega)⟩
  have hr : ∀ n, n ≤ 36 → IB U (iter passR n (iter passZ 6 (up st 0 (st 0 + t)))) ∧ AC (iter passR n (iter passZ 6 (up st 0 (st 0 + t)))) := by
    intro n
    induction n with
    | zero => exact fun _ => hz 6 (Nat.le_refl _)
    | succ n ih => exact fun hn => ⟨IB_passR (ih (by omega)).1 (by omega), AC_passR (ih (by omega)).1 (ih (by omega)).2 (by omega)⟩
  exact (hr 36 (Nat.le_refl _)).2
theorem AC_ini : AC ini9 := by
  unfold AC
  have hz : sumN (bz ini9) 6 = 0 := by
    rw [sumN_ext (g := fun _ => 0) 6 (fun z hz => by unfold bz; rw [(ini_z z hz).2.2.2.1]; rfl)]
    decide
  have hr : sumN (br ini9) 36 = 0 := by
    rw [sumN_ext (g := fun _ => 0) 36 (fun r hr => by unfold br; rw [ini_r r 5 (by decide)]; rfl)]
    decide
  rw [memo_b, hz, hr]
  decide
