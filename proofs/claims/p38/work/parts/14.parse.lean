/-! the text, as both read it -/
def wdg (sg nm c : Int) : Int := if c < 48 ∨ 57 < c ∨ nm = 0 then -1 else if (if sg = 63 then 0 else 1) ≤ (if nm = -1 then 0 else 10 * nm) + c - 48 ∧ (if nm = -1 then 0 else 10 * nm) + c - 48 ≤ (if sg = 63 then 35 else 99) then (if nm = -1 then 0 else 10 * nm) + c - 48 else -1
def pmF : Nat → S → Nat → Int → Int → Int
  | 0, _, k, _, nm => if nm = -1 then k else -1
  | n + 1, tx, k, sg, nm => if sg = -1 then (if tx k ≠ 63 ∧ tx k ≠ 43 then k else pmF n tx (k + 1) (tx k) (-1))
      else if tx k = 44 ∧ nm ≠ -1 then pmF n tx (k + 1) (-1) (-1) else if wdg sg nm (tx k) = -1 then k else pmF n tx (k + 1) sg (wdg sg nm (tx k))
def acF : Nat → S → Nat → Int → Int → List (Int × Int)
  | 0, _, _, sg, nm => if nm = -1 then [] else [(sg, nm)]
  | n + 1, tx, k, sg, nm => if sg = -1 then acF n tx (k + 1) (tx k) (-1)
      else if tx k = 44 ∧ nm ≠ -1 then (sg, nm) :: acF n tx (k + 1) (-1) (-1) else acF n tx (k + 1) sg (wdg sg nm (tx k))
def runN : Nat → S → Nat → Int → Int → Nat × Int
  | 0, _, k, v, _ => (k, v)
  | n + 1, tx, k, v, hi => if 0 < v ∧ 48 ≤ tx k ∧ tx k ≤ 57 ∧ 10 * v + tx k - 48 ≤ hi then runN n tx (k + 1) (10 * v + tx k - 48) hi else (k, v)
theorem run_s {n : Nat} {tx : S} {k : Nat} {v hi : Int} (h : 0 < v ∧ 48 ≤ tx k ∧ tx k ≤ 57 ∧ 10 * v + tx k - 48 ≤ hi) : runN (n + 1) tx k v hi = runN n tx (k + 1) (10 * v + tx k - 48) hi := by rw [runN, if_pos h]
theorem run_e {n : Nat} {tx : S} {k : Nat} {v hi : Int} (h : ¬ (0 < v ∧ 48 ≤ tx k ∧ tx k ≤ 57 ∧ 10 * v + tx k - 48 ≤ hi)) : runN (n + 1) tx k v hi = (k, v) := by rw [runN, if_neg h]
theorem run_le : ∀ (n : Nat) (tx : S) (k : Nat) (v hi : Int), k ≤ (runN n tx k v hi).1 ∧ (runN n tx k v hi).1 ≤ k + n
  | 0, _, _, _, _ => ⟨Nat.le_refl _, Nat.le_refl _⟩
  | n + 1, tx, k, v, hi => by
    by_cases h : 0 < v ∧ 48 ≤ tx k ∧ tx k ≤ 57 ∧ 10 * v + tx k - 48 ≤ hi
    · rw [run_s h]
      have := run_le n tx (k + 1) (10 * v + tx k - 48) hi
      omega
    · rw [run_e h]; exact ⟨Nat.le_refl _, Nat.le_add_right _ _⟩
theorem run_v : ∀ (n : Nat) (tx : S) (k : Nat) (v hi lo : Int), lo ≤ 1 → lo ≤ v → v ≤ hi → lo ≤ (runN n tx k v hi).2 ∧ (runN n tx k v hi).2 ≤ hi
  | 0, _, _, _, _, _, _, h1, h2 => ⟨h1, h2⟩
  | n + 1, tx, k, v, hi, lo, h0, h1, h2 => by
    by_cases h : 0 < v ∧ 48 ≤ tx k ∧ tx k ≤ 57 ∧ 10 * v + tx k - 48 ≤ hi
    · rw [run_s h]
      exact run_v n tx (k + 1) (10 * v + tx k - 48) hi lo h0 (by omega) (by omega)
    · rw [run_e h]; exact ⟨h1, h2⟩
abbrev sgOk (sg lo hi : Int) : Prop := (sg = 43 ∧ lo = 1 ∧ hi = 99) ∨ (sg = 63 ∧ lo = 0 ∧ hi = 35)
theorem sg_lo {sg lo hi : Int} (hs : sgOk sg lo hi) : (if sg = 63 then (0 : Int) else 1) = lo := by rcases hs with ⟨rfl, rfl, rfl⟩ | ⟨rfl, rfl, rfl⟩ <;> rfl
theorem sg_hi {sg lo hi : Int} (hs : sgOk sg lo hi) : (if sg = 63 then (35 : Int) else 99) = hi := by rcases hs with ⟨rfl, rfl, rfl⟩ | ⟨rfl, rfl, rfl⟩ <;> rfl
theorem wdg_more {sg lo hi v c : Int} (hs : sgOk sg lo hi) (hv : 0 ≤ v) (h : 0 < v ∧ 48 ≤ c ∧ c ≤ 57 ∧ 10 * v + c - 48 ≤ hi) : wdg sg v c = 10 * v + c - 48 := by
  unfold wdg
  rw [if_neg (by omega), if_neg (by omega : ¬ v = -1), sg_lo hs, sg_hi hs, if_pos (by rcases hs with h | h <;> omega)]
theorem wdg_none {sg lo hi v c : Int} (hs : sgOk sg lo hi) (hv : 0 ≤ v) (h : ¬ (0 < v ∧ 48 ≤ c ∧ c ≤ 57 ∧ 10 * v + c - 48 ≤ hi)) : wdg sg v c = -1 := by
  unfold wdg
  by_cases h1 : c < 48 ∨ 57 < c ∨ v = 0
  · rw [if_pos h1]
  · rw [if_neg h1, if_neg (by omega : ¬ v = -1), sg_lo hs, sg_hi hs, if_neg (by rcases hs with h | h <;> omega)]
theorem wdg_first {sg lo hi c : Int} (hs : sgOk sg lo hi) (h : 48 + lo ≤ c ∧ c ≤ 57) : wdg sg (-1) c = c - 48 := by
  unfold wdg
  rw [if_neg (by rcases hs with h | h <;> omega), if_pos rfl, sg_lo hs, sg_hi hs, if_pos (by rcases hs with h | h <;> omega)]
  omega
theorem wdg_fnone {sg lo hi c : Int} (hs : sgOk sg lo hi) (h : ¬ (48 + lo ≤ c ∧ c ≤ 57)) : wdg sg (-1) c = -1 := by
  unfold wdg
  by_cases h1 : c < 48 ∨ 57 < c ∨ (-1 : Int) = 0
  · rw [if_pos h1]
  · rw [if_neg h1, if_pos rfl, sg_lo hs, sg_hi hs, if_neg (by rcases hs with h | h <;> omega)]
theorem pm_run {sg lo hi : Int} (hs : sgOk sg lo hi) {tx : S} : ∀ (n k : Nat) (v : Int), 0 ≤ v → v ≤ hi →
    pmF n tx k sg v = (if (runN n tx k v hi).1 = k + n then -1 else if tx (runN n tx k v hi).1 = 44 then pmF (k + n - ((runN n tx k v hi).1 + 1)) tx ((runN n tx k v hi).1 + 1) (-1) (-1) else ((runN n tx k v hi).1 : Int))
  | 0, k, v, h1, h2 => by
    show (if v = -1 then (k : Int) else -1) = _
    rw [if_neg (by omega)]
    exact (if_pos rfl).symm
  | n + 1, k, v, h1, h2 => by
    rw [pmF, if_neg (by rcases hs with h | h <;> omega)]
    by_cases hc : tx k = 44
    · rw [if_pos ⟨hc, by omega⟩, run_e (by omega)]
      rw [if_neg (by dsimp only; omega)]
      dsimp only
      rw [if_pos hc, show k + (n + 1) - (k + 1) = n by omega]
    · rw [if_neg (by omega)]
      by_cases hr : 0 < v ∧ 48 ≤ tx k ∧ tx k ≤ 57 ∧ 10 * v + tx k - 48 ≤ hi
      · rw [wdg_more hs h1 hr, if_neg (by omega), run_s hr, pm_run hs n (k + 1) _ (by omega) (by omega), show k + 1 + n = k + (n + 1) by omega]
      · rw [wdg_none hs h1 hr, if_pos rfl, run_e hr]
        rw [if_neg (by dsimp only; omega)]
        dsimp only
        rw [if_neg hc]
theorem ac_run {sg lo hi : Int} (hs : sgOk sg lo hi) {tx : S} : ∀ (n k : Nat) (v : Int), 0 ≤ v → v ≤ hi → pmF n tx k sg v = -1 →
    acF n tx k sg v = (sg, (runN n tx k v hi).2) :: (if (runN n tx k v hi).1 = k + n then [] else acF (k + n - ((runN n tx k v hi).1 + 1)) tx ((runN n tx k v hi).1 + 1) (-1) (-1))
  | 0, k, v, h1, h2, _ => by
    show (if v = -1 then [] else [(sg, v)]) = _
    rw [if_neg (by omega)]
    rw [show runN 0 tx k v hi = (k, v) from rfl, if_pos (by rfl)]
  | n + 1, k, v, h1, h2, hp => by
    rw [pmF, if_neg (by rcases hs with h | h <;> omega)] at hp
    rw [acF, if_neg (by rcases hs with h | h <;> omega)]
    by_cases hc : tx k = 44
    · rw [if_pos ⟨hc, by omega⟩, run_e (by omega)]
      rw [if_neg (by dsimp only; omega)]
      dsimp only
      rw [show k + (n + 1) - (k + 1) = n by omega]
    · rw [if_neg (by omega)] at hp ⊢
      by_cases hr : 0 < v ∧ 48 ≤ tx k ∧ tx k ≤ 57 ∧ 10 * v + tx k - 48 ≤ hi
      · rw [wdg_more hs h1 hr, if_neg (by omega)] at hp
        rw [wdg_more hs h1 hr, run_s hr, ac_run hs n (k + 1) _ (by omega) (by omega) hp, show k + 1 + n = k + (n + 1) by omega]
      · rw [wdg_none hs h1 hr, if_pos rfl] at hp
        omega
/-- an act, read from its sign on -/
theorem pm_act {N i : Nat} {tx : S} {sg lo hi : Int} (hs : sgOk sg lo hi) (h1 : i + 1 < N) (h2 : tx i = sg) (h3 : 48 + lo ≤ tx (i + 1) ∧ tx (i + 1) ≤ 57) :
    pmF (N - i) tx i (-1) (-1) = (if (runN (N - (i + 2)) tx (i + 2) (tx (i + 1) - 48) hi).1 = N then -1 else if tx (runN (N - (i + 2)) tx (i + 2) (tx (i + 1) - 48) hi).1 = 44 then pmF (N - ((runN (N - (i + 2)) tx (i + 2) (tx (i + 1) - 48) hi).1 + 1)) tx ((runN (N - (i + 2)) tx (i + 2) (tx (i + 1) - 48) hi).1 + 1) (-1) (-1) else ((runN (N - (i + 2)) tx (i + 2) (tx (i + 1) - 48) hi).1 : Int)) := by
  rw [show N - i = N - (i + 2) + 1 + 1 by omega, pmF, if_pos rfl, if_neg (by rcases hs with h | h <;> omega), pmF, if_neg (by rcases hs with h | h <;> omega), if_neg (by omega), h2, wdg_first hs h3, if_neg (by rcases hs with h | h <;> omega), pm_run hs _ _ _ (by rcases hs with h | h <;> omega) (by rcases hs with h | h <;> omega), show i + 1 + 1 + (N - (i + 2)) = N by omega]
theorem pm_bad0 {N i : Nat} {tx : S} (hi : i ≤ N) (h : i < N → tx i ≠ 63 ∧ tx i ≠ 43) : pmF (N - i) tx i (-1) (-1) = i := by
  by_cases h1 : i < N
  · rw [show N - i = N - (i + 1) + 1 by omega, pmF, if_pos rfl, if_pos (h h1)]
  · rw [show N - i = 0 by omega, pmF, if_pos rfl]
theorem pm_bad1 {N i : Nat} {tx : S} {sg lo hi : Int} (hs : sgOk sg lo hi) (h1 : i < N) (h2 : tx i = sg) (h3 : ¬ (i + 1 < N ∧ 48 + lo ≤ tx (i + 1) ∧ tx (i + 1) ≤ 57)) : pmF (N - i) tx i (-1) (-1) = (i : Int) + 1 := by
  rw [show N - i = N - (i + 1) + 1 by omega, pmF, if_pos rfl, if_neg (by rcases hs with h | h <;> omega)]
  by_cases h4 : i + 1 < N
  · rw [show N - (i + 1) = N - (i + 2) + 1 by omega, pmF, if_neg (by rcases hs with h | h <;> omega), if_neg (by omega), h2, wdg_fnone hs (by omega), if_pos rfl]; omega
  · rw [show N - (i + 1) = 0 by omega, pmF, if_pos rfl]; omega
theorem ac_act {N i : Nat} {tx : S} {sg lo hi : Int} (hs : sgOk sg lo hi) (h1 : i + 1 < N) (h2 : tx i = sg) (h3 : 48 + lo ≤ tx (i + 1) ∧ tx (i + 1) ≤ 57) (hp : pmF (N - i) tx i (-1) (-1) = -1) :
    acF (N - i) tx i (-1) (-1) = (sg, (runN (N - (i + 2)) tx (i + 2) (tx (i + 1) - 48) hi).2) :: (if (runN (N - (i + 2)) tx (i + 2) (tx (i + 1) - 48) hi).1 = N then [] else acF (N - ((runN (N - (i + 2)) tx (i + 2) (tx (i + 1) - 48) hi).1 + 1)) tx ((runN (N - (i + 2)) tx (i + 2) (tx (i + 1) - 48) hi).1 + 1) (-1) (-1)) := by
  rw [show N - i = N - (i + 2) + 1 + 1 by omega, pmF, if_pos rfl, if_neg (by rcases hs with h | h <;> omega), pmF, if_neg (by rcases hs with h | h <;> omega), if_neg (by omega), h2, wdg_first hs h3, if_neg (by rcases hs with h | h <;> omega)] at hp
  rw [show N - i = N - (i + 2) + 1 + 1 by omega, acF, if_pos rfl, acF, if_neg (by rcases hs with h | h <;> omega), if_neg (by omega), h2, wdg_first hs h3, ac_run hs _ _ _ (by rcases hs with h | h <;> omega) (by rcases hs with h | h <;> omega) hp, show i + 1 + 1 + (N - (i + 2)) = N by omega]
def txB (N : Nat) (tx : S) : Prop := N ≤ 60 ∧ ∀ j, j < N → 33 ≤ tx j ∧ tx j ≤ 126
theorem act_at {N i : Nat} {tx : S} (h1 : i < N) (hp : pmF (N - i) tx i (-1) (-1) = -1) : ∃ (sg lo hi : Int) (R : Nat × Int) (L' : List (Int × Int)), sgOk sg lo hi ∧ tx i = sg ∧ i + 1 < N ∧ 48 + lo ≤ tx (i + 1) ∧ tx (i + 1) ≤ 57 ∧ R = runN (N - (i + 2)) tx (i + 2) (tx (i + 1) - 48) hi ∧ i + 2 ≤ R.1 ∧ R.1 ≤ N ∧ lo ≤ R.2 ∧ R.2 ≤ hi ∧
    acF (N - i) tx i (-1) (-1) = (sg, R.2) :: L' ∧ ((L' = [] ∧ N ≤ R.1 + 1 ∧ R.1 + 1 ≤ N + 1) ∨ (R.1 + 1 < N ∧ pmF (N - (R.1 + 1)) tx (R.1 + 1) (-1) (-1) = -1 ∧ acF (N - (R.1 + 1)) tx (R.1 + 1) (-1) (-1) = L')) := by
  have hs : ∃ lo hi, sgOk (tx i) lo hi := by
    by_cases a : tx i = 43
    · exact ⟨1, 99, Or.inl ⟨a, rfl, rfl⟩⟩
    · by_cases b : tx i = 63
      · exact ⟨0, 35, Or.inr ⟨b, rfl, rfl⟩⟩
      · rw [pm_bad0 (by omega) (fun _ => ⟨b, a⟩)] at hp; omega
  obtain ⟨lo, hi, hs⟩ := hs
  have h3 : i + 1 < N ∧ 48 + lo ≤ tx (i + 1) ∧ tx (i + 1) ≤ 57 := by
    refine Classical.byContradiction fun q => ?_
    rw [pm_bad1 hs h1 rfl q] at hp; omega
  have hv : lo ≤ 1 ∧ lo ≤ tx (i + 1) - 48 ∧ tx (i + 1) - 48 ≤ hi := by rcases hs with h | h <;> omega
  have hl := run_le (N - (i + 2)) tx (i + 2) (tx (i + 1) - 48) hi
  have hr := run_v (N - (i + 2)) tx (i + 2) (tx (i + 1) - 48) hi lo hv.1 hv.2.1 hv.2.2
  have ha := ac_act hs h3.1 rfl h3.2 hp
  have hq := pm_act hs h3.1 rfl h3.2
  rw [hp] at hq
  refine ⟨tx i, lo, hi, _, _, hs, rfl, h3.1, h3.2.1, h3.2.2, rfl, hl.1, by omega, hr.1, hr.2, ha, ?_⟩
  generalize runN (N - (i + 2)) tx (i + 2) (tx (i + 1) - 48) hi = R at hl hq ⊢
  by_cases e : R.1 = N
  · rw [if_pos e]; exact Or.inl ⟨rfl, by omega, by omega⟩
  · rw [if_neg e] at hq ⊢
    by_cases c : tx R.1 = 44
    · rw [if_pos c] at hq
      by_cases d : R.1 + 1 < N
      · exact Or.inr ⟨d, hq.symm, rfl⟩
      · rw [show N - (R.1 + 1) = 0 by omega, pmF, if_pos rfl] at hq; omega
    · rw [if_neg c] at hq; omega
def actSt (st : S) (a : Int × Int) : S := if a.1 = 63 then (solve1 st a.2.toNat).1 else passes st a.2
def runA : List (Int × Int) → S → S × Int
  | [], st => (st, 0)
  | a :: L, st => if a.1 = 63 ∨ st 0 + a.2 ≤ 9999 then ((runA L (actSt st a)).1, 1 + (runA L (actSt st a)).2) else (st, 0)
theorem IB_passes2 {T : Int} {st : S} (h : IB T st) (t : Int) (ht : 0 ≤ t) (U : Int) (hU : st 0 + t ≤ U ∧ T ≤ U ∧ U ≤ 100000) : IB U (passes st t) := by
  have h0 := h.1
  have h1 : IB U (up st 0 (st 0 + t)) := IB_time h _ (by omega) U (by omega)
  exact iter_IB (N := 36) (fun st n hn h => IB_passR h hn) 36 (Nat.le_refl _) _ (iter_IB (N := 6) (fun st n hn h => IB_passZ h hn) 6 (Nat.le_refl _) _ h1)
theorem IB_solve1 {T : Int} {st : S} (h : IB T st) {r : Nat} (hr : r < 36) : IB T (solve1 st r).1 := IB_solvesF 7 (IB_free h 1 _ (by omega)) hr
/-! the digest -/
def mixL (h : Int64) (v : Int) : Int64 := 31 * h + (I v).toInt64
def dig0 (st : S) : Int64 := mixL (mixL (mixL (mixL (mixL (mixL 725 (st 0)) (memo st)) (untl st)) (st 1)) (st 2)) (st 3)
def digZ (st : S) (h : Int64) (z : Nat) : Int64 := mixL (mixL (mixL (mixL h (st (6 + 5 * z))) (depthF 6 st z)) (left st (st (6 + 5 * z + 3)))) (st (6 + 5 * z + 4))
def digR (st : S) (h : Int64) (r : Nat) : Int64 := mixL (mixL (mixL (mixL (mixL (mixL (mixL (mixL h (st (36 + 6 * r))) (st (36 + 6 * r + 1))) (truthF 7 st r)) (st (36 + 6 * r + 3))) (left st (st (36 + 6 * r + 5)))) (oldI st r)) (would st r)) (cost st r)
def iterL (f : Int64 → Nat → Int64) : Nat → Int64 → Int64
  | 0, h => h
  | n + 1, h => f (iterL f n h) n
def dig (st : S) : Int64 := iterL (digR st) 36 (iterL (digZ st) 6 (dig0 st))
theorem lv_mix {p : Program} {l : Launch} {e : Jvm.Env} {R : Room} {s : State} {m : MethodId} {args : Array Value} {below : List Frame} {meth : Method} {c : Code} {H : Heap} {locs : List Loc} {cells slots : Nat} {Q : State → Prop} {pc : Nat} {ls : Array Slot} {rest : List Value} {h : Int64} {v : Int}
    (k : W p l e R s m args below meth c H locs cells slots Q (F0 m pc ls (.long (mixL h v) :: rest))) : W p l e R s m args below meth c H locs cells slots Q (F0 m pc ls (.long (31 * h + (I v).toInt64) :: rest)) := k
theorem iterL_0 (f : Int64 → Nat → Int64) (h : Int64) : iterL f 0 h = h := rfl
theorem iterL_s (f : Int64 → Nat → Int64) (n : Nat) (h : Int64) : iterL f (n + 1) h = f (iterL f n h) n := rfl
theorem dig_eq (st : S) : iterL (digR st) 36 (iterL (digZ st) 6 (dig0 st)) = dig st := rfl
