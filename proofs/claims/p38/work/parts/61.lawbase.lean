/-! rows of the law's own methods -/
theorem I_mod {x y : Nat} (hx : x ≤ 2147483647) (hy : 0 < y ∧ y ≤ 2147483647) : I (x : Int) - I (x : Int) / I (y : Int) * I (y : Int) = I ((x % y : Nat) : Int) := by
  rw [I_div hx hy, I_mul, I_sub]
  have h := Nat.div_add_mod x y
  rw [Nat.mul_comm] at h
  have h2 : ((x / y : Nat) : Int) * (y : Int) + ((x % y : Nat) : Int) = (x : Int) := by
    rw [← Int.natCast_mul, ← Int.natCast_add, h]
  congr 1
  generalize ((x / y : Nat) : Int) * (y : Int) = a at h2 ⊢
  omega
theorem and_pos (x : Int32) : ∃ y : Nat, y ≤ 2147483647 ∧ x &&& 2147483647 = I (y : Int) := by
  have h1 : (x &&& 2147483647).toBitVec.msb = false := by
    rw [Int32.toBitVec_and, BitVec.msb_and]
    have : (2147483647 : Int32).toBitVec.msb = false := by decide
    rw [this, Bool.and_false]
  have h0 : 0 ≤ (x &&& 2147483647).toInt := by
    show 0 ≤ (x &&& 2147483647).toBitVec.toInt
    rw [BitVec.toInt_eq_toNat_of_msb h1]
    exact Int.natCast_nonneg _
  have h2 := I_rng (x &&& 2147483647)
  refine ⟨(x &&& 2147483647).toInt.toNat, by omega, ?_⟩
  rw [Int.toNat_of_nonneg h0, I_of]
theorem dv_bits (x : UInt64) (h : FP.Core.dIsNaN x = false) : vf_n64 x := by
  unfold vf_n64
  rw [UInt64.le_iff_toNat_le, UInt64.toNat_and]
  have h1 : (0x7fffffffffffffff : UInt64).toNat = 2 ^ 63 - 1 := by decide
  have h2 : (0x7ff0000000000000 : UInt64).toNat = 9218868437227405312 := by decide
  rw [h1, h2, Nat.and_two_pow_sub_one_eq_mod]
  rw [← Bool.not_eq_true, FP.Core.isNaN_bits] at h
  omega
theorem dv_no (a b : Int32) (hb : b ≠ 0) : FP.Core.dIsNaN (FP.ddiv (FP.i2d a) (FP.i2d b)) = false := by
  have ha : FP.Core.dIsNaN (FP.Core.i2d a) = false := by
    rw [← Bool.not_eq_true, FP.Core.dIsNaN_iff]
    exact (FP.Core.i2d_fin a).ne_nan
  exact FP.Core.ddiv_out ha (FP.Core.i2d_fin b) (fun h => FP.Core.i2d_ne_zero hb ((FP.Core.zero_bits2 _).mp h))
theorem dv_cmp {x : UInt64} (h : FP.Core.dIsNaN x = false) : Op.cmpValue (FP.dcmp x x) CmpOp.l = 0 := by
  have h1 : FP.dcmp x x = some .eq := by
    rw [← Bool.not_eq_true, FP.Core.dIsNaN_iff] at h
    exact FP.Core.dcmp_self h
  rw [h1]
  rfl
/-- an answer of some kind, nothing is written -/
def qE (P : Int32 → Prop) : Array Value → State → Outcome → State → Prop := fun _ st oc t => ∃ v : Int32, P v ∧ oc = .returned (some (.int v)) ∧ t.heap = st.heap
section LB
variable {p : Program} {l : Launch} {e : Jvm.Env} {R : Room} {s : State} {m : MethodId} {args : Array Value} {below : List Frame} {meth : Method} {c : Code} {H : Heap} {locs : List Loc} {cells slots : Nat} {Q : State → Prop}
variable {cc : ByteArray} {pc : Nat} {ls : Array Slot} {rest st0 : List Value} {E : Env3} {A : Nat → Prop} {H0 : Heap} {a : Nat} {ws : va_W}
theorem iv_irem (hx : p.tables.exec = Jvm.exec) (hb : c.code = cc) {x y : Int} (hdg : decode cc pc = .ok (.irem, 1)) (z : Int) (hz : I x - I x / I y * I y = I z) (hy : -2147483648 ≤ y ∧ y ≤ 2147483647 ∧ y ≠ 0) (k : W p l e R s m args below meth c H locs cells slots Q (F0 m (pc + 1) ls (.int (I z) :: rest))) : W p l e R s m args below meth c H locs cells slots Q (F0 m pc ls (.int (I y) :: .int (I x) :: rest)) :=
  lv_irem hx hb hdg (by rw [← I_0, I_inj (by omega) (by omega)]; exact hy.2.2) (by rw [hz]; exact k)
theorem call_E {P : Int32 → Prop} {aa : Array Value} {free : Addr → Prop} (hr : va_Run p l e R s m args below meth c H locs cells slots 0 0 (F0 m pc ls st0) rest (qE P aa) free) (hf : ∀ q, ¬ free q) (hS : va_S A H0 H locs)
    (kk : ∀ (v : Int32) (locs1 : List Loc), P v → va_S A H0 H locs1 → W p l e R s m args below meth c H locs1 cells slots Q (F0 m (pc + 3) ls (.int v :: rest))) : W p l e R s m args below meth c H locs cells slots Q (F0 m pc ls st0) := by
  intro T hT X
  obtain ⟨v', st₀, t, T', L, h0, X', hL, e1, e2, ⟨v, hPv, hv, hh⟩, st⟩ := hr T hT X
  cases hv
  obtain ⟨t2, a1, b1⟩ := kk v (locs ++ L) hPv ⟨hS.1, hS.2.1, fun q hq => by
      rcases List.mem_append.mp hq with h | h
      · exact hS.2.2 q h
      · exact absurd (hL q h) (hf _)⟩ T' (by rw [e1, hh, h0]) X'
  exact ⟨t2, st t2 a1, b1⟩
/-- a call that writes at some places of the world, what is told by some g -/
theorem call_XW {σ : Type} {v : Option Value} {aa : Array Value} {wc : va_W} {w1 : σ → va_W} (hr : va_Run p l e R s m args below meth c H locs cells slots 0 0 (F0 m pc ls st0) rest (qX v E wc w1 aa) (adIn wc)) (hP : va_P E.1 vwCl ws H) (hD : va_D A ws) (hS : va_S A H0 H locs) (is : List Nat) (hC : is.map (fun i => ws[i]?) = wc.map some) (hn : va_nd is = true) (hl : ∀ g, is.length = (w1 g).length)
    {st1 : List Value} (h1 : v.toList ++ rest = st1)
    (kk : ∀ (g : σ) (H1 : Heap) (locs1 : List Loc), va_P E.1 vwCl (setAll ws is (w1 g)) H1 → va_S A H0 H1 locs1 → W p l e R s m args below meth c H1 locs1 cells slots Q (F0 m (pc + 3) ls st1)) : W p l e R s m args below meth c H locs cells slots Q (F0 m pc ls st0) := by
  intro T hT X
  obtain ⟨v', st₀, t, T', L, h0, X', hL, e1, e2, ⟨hv, ⟨g, hP1⟩, hz, hk⟩, st⟩ := hr T hT X
  cases hv
  subst h1
  have hA : ∀ q, adIn wc q → A q := by
    intro q hq
    obtain ⟨j, e', hj⟩ := hq
    have h9 : (is.map (fun i => ws[i]?))[j]? = some (some (q, e')) := by rw [hC, List.getElem?_map, hj]; rfl
    rw [List.getElem?_map] at h9
    cases hi : is[j]? with
    | none => rw [hi] at h9; cases h9
    | some i => rw [hi] at h9; exact hD.2 i (q, e') (Option.some.inj h9)
  rw [h0] at hz hk
  rw [← e1] at hP1 hz hk
  obtain ⟨t2, a1, b1⟩ := kk g T'.heap (locs ++ L) (mj_P is hP hD hC hk hP1 rfl hn (hl g))
    ⟨Nat.le_trans hS.1 hz, fun q h1 h2 => by rw [hk q (Nat.lt_of_lt_of_le h1 hS.1) (fun z => h2 (hA q z))]; exact hS.2.1 q h1 h2, fun q hq => by
      rcases List.mem_append.mp hq with h | h
      · exact hS.2.2 q h
      · exact hA _ (hL q h)⟩ T' rfl X'
  exact ⟨t2, st t2 a1, b1⟩
end LB
/-! the law's arrays as cells -/
abbrev lwW (E : Env3) (β : Nat → Nat) (q z r a m e : S) : va_W := [(β 0, iA E 6 q), (β 1, iA E 30 z), (β 2, iA E 36 r), (β 3, iA E 36 a), (β 4, iA E 36 m), (β 5, iA E 36 e)]
abbrev LRs (st r a : S) : Type := {g : S × S × S × S // LR st g.1 g.2.1 r a g.2.2.1 g.2.2.2}
abbrev lwG (E : Env3) (β : Nat → Nat) (r a : S) {st : S} (g : LRs st r a) : va_W := lwW E β g.1.1 g.1.2.1 r a g.1.2.2.1 g.1.2.2.2
theorem eT_1 {T : Int} {st r : S} {k : Nat} (h1 : r k = eT (st (36 + 6 * k)) (st (36 + 6 * k + 1))) (hI : IB T st) (hk : k < 36) : (r k = 0 ↔ st (36 + 6 * k) = 0) ∧ 0 ≤ r k ∧ r k < 3000 ∧ (r k < 2000 ↔ st (36 + 6 * k) ≠ 2) ∧ (st (36 + 6 * k) ≠ 0 → r k = 1000 * st (36 + 6 * k) + st (36 + 6 * k + 1)) := by
  have h2 := (hI.2.2.2 k hk).1
  unfold triT at h2
  unfold eT at h1
  split at h1 <;> omega
theorem truth_n {n : Nat} {st : S} {k : Nat} (h : st (36 + 6 * k) ≠ 2) : truthF (n + 1) st k = st (36 + 6 * k + 1) := by rw [truthF, if_neg h]
theorem solves_e {n : Nat} {st : S} {k : Nat} (h : take st k (36 + 6 * k + 3) ≠ 2) : solvesF (n + 1) st k = (take st k, if take st k (36 + 6 * k + 3) = 1 then take st k (36 + 6 * k + 4) else -1) := by rw [solvesF, if_neg h]
def cpN (f g : S) (i : Nat) : S := fun j => if j < i then f j else g j
theorem cpN_0 (f g : S) : cpN f g 0 = g := by funext j; unfold cpN; rw [if_neg (Nat.not_lt_zero j)]
theorem cpN_s (f g : S) (i : Nat) : up (cpN f g i) i (f i) = cpN f g (i + 1) := by
  funext j
  unfold up cpN
  by_cases h : j = i
  · subst h; rw [if_pos rfl, if_pos (Nat.lt_succ_self j)]
  · rw [if_neg h]
    by_cases h2 : j < i
    · rw [if_pos h2, if_pos (by omega)]
    · rw [if_neg h2, if_neg (by omega)]
theorem cpN_lt (f g : S) (n j : Nat) (h : j < n) : cpN f g n j = f j := by unfold cpN; rw [if_pos h]
theorem LR_done {s q z r a m e : S} {y : Int} (h : LR (up s 5 y) q z r a m e) : LR s (up q 5 (q 5 + (s 5 - y))) z r a m e := by
  have h1 := LR_q h (i := 5) (by omega) (v := q 5 + (s 5 - y)) (w := s 5) (by rw [h.1 5 (by omega), up_eq]; omega)
  rw [up_up5, up_self] at h1
  exact h1
