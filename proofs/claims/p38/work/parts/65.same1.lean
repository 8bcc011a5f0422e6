/-! the law's own method same: zones and riddles; written by law4.py -/
def uZ (st : S) (i : Nat) : Int := foldN (fun a z => sooner a (left st (st (6 + 5 * z + 3)))) i (-1)
def uR (st : S) (k : Nat) : Int := foldN (fun a r => sooner a (left st (st (36 + 6 * r + 5)))) k (uZ st 6)
def nR (st : S) : Nat → Int
  | 0 => sumN (bz st) 6
  | k + 1 => nR st k + br st k
theorem nR_n (st : S) : ∀ k, nR st k = sumN (bz st) 6 + sumN (br st) k
  | 0 => by show sumN (bz st) 6 = sumN (bz st) 6 + 0; omega
  | k + 1 => by show nR st k + br st k = sumN (bz st) 6 + (sumN (br st) k + br st k); rw [nR_n st k]; omega
theorem nR_memo (st : S) : nR st 36 = memo st := by rw [nR_n, memo_b]
theorem uR_untl (st : S) : uR st 36 = untl st := rfl
theorem left_or (st : S) (e : Int) : (e = 0 ∧ left st e = -1) ∨ (e ≠ 0 ∧ left st e = e - st 0) := by
  unfold left
  by_cases h : e = 0
  · left; exact ⟨h, if_pos h⟩
  · right; exact ⟨h, if_neg h⟩
theorem soon_s {a b : Int} (ha : a = -1 ∨ 0 < a) (hb : b = -1 ∨ 0 < b) : sooner a b = if 0 < b ∧ (a < 0 ∨ b < a) then b else a := by
  unfold sooner
  by_cases h : a = -1 ∨ (b ≠ -1 ∧ b < a)
  · rw [if_pos h]
    by_cases h2 : 0 < b ∧ (a < 0 ∨ b < a)
    · rw [if_pos h2]
    · rw [if_neg h2]; omega
  · rw [if_neg h, if_neg (by omega)]
theorem soon_p {a b : Int} (ha : a = -1 ∨ 0 < a) (hb : b = -1 ∨ 0 < b) : sooner a b = -1 ∨ 0 < sooner a b := by
  unfold sooner
  split <;> assumption
theorem leftZ_p {st : S} (hT : IT st) {z : Nat} (hz : z < 6) : left st (st (6 + 5 * z + 3)) = -1 ∨ 0 < left st (st (6 + 5 * z + 3)) := by
  have h1 := hT.1 z hz
  have h2 := left_or st (st (6 + 5 * z + 3))
  omega
theorem leftR_p {st : S} (hI : IB 9999 st) (hT : IT st) {r : Nat} (hr : r < 36) : left st (st (36 + 6 * r + 5)) = -1 ∨ 0 < left st (st (36 + 6 * r + 5)) := by
  have h1 := hT.2 r hr
  have h2 := left_or st (st (36 + 6 * r + 5))
  have h3 := (hI.2.2.2 r hr).2
  unfold triM at h3
  omega
theorem uZ_p {st : S} (hT : IT st) : ∀ i, i ≤ 6 → uZ st i = -1 ∨ 0 < uZ st i
  | 0, _ => Or.inl rfl
  | i + 1, h => soon_p (uZ_p hT i (by omega)) (leftZ_p hT (by omega))
theorem uR_p {st : S} (hI : IB 9999 st) (hT : IT st) : ∀ k, k ≤ 36 → uR st k = -1 ∨ 0 < uR st k
  | 0, _ => uZ_p hT 6 (Nat.le_refl _)
  | k + 1, h => soon_p (uR_p hI hT k (by omega)) (leftR_p hI hT (by omega))
theorem dv_T {x : Int} (h : 0 ≤ x ∧ x ≤ 2147483647) : I x / I 1000 = I (x / 1000) := by
  have h1 : x = ((x.toNat : Nat) : Int) := by omega
  have h2 := I_div (x := x.toNat) (y := 1000) (by omega) (by omega)
  rw [← h1] at h2
  rw [show (1000 : Int) = ((1000 : Nat) : Int) from rfl, h2]
  exact congrArg I (by omega)
theorem md_T {x : Int} (h : 0 ≤ x ∧ x ≤ 2147483647) : I x - I x / I 1000 * I 1000 = I (x % 1000) := by
  rw [dv_T h, I_mul, I_sub]
  exact congrArg I (by omega)
theorem old_law {st q z r a mm ee : S} (hL : LR st q z r a mm ee) (hI : IB 9999 st) {k : Nat} (hk : k < 36) : oldI st k = if mm k = 0 then 0 else if mm k = (if r k = 0 then 3000 else r k) then 0 else 1 := by
  have hr := eT_0 hL hI hk
  have hm := eM_0 hL hI hk
  have ht := (hI.2.2.2 k hk).1
  have hs := (hI.2.2.2 k hk).2
  unfold triT at ht; unfold triM at hs
  unfold oldI
  by_cases c0 : st (36 + 6 * k + 3) = 0
  · rw [if_pos c0, if_pos (by omega)]
  · rw [if_neg c0, if_neg (show ¬ mm k = 0 by omega)]
    by_cases c3 : st (36 + 6 * k + 3) = 3
    · rw [if_pos c3]
      by_cases d : st (36 + 6 * k) = 0
      · rw [if_pos d, if_pos (show r k = 0 by omega), if_pos (by omega)]
      · rw [if_neg d, if_neg (show ¬ r k = 0 by omega), if_neg (by omega)]
    · rw [if_neg c3]
      by_cases d : st (36 + 6 * k) = 0
      · rw [if_pos (show r k = 0 by omega), if_neg (by omega), if_neg (by omega)]
      · rw [if_neg (show ¬ r k = 0 by omega)]
        by_cases f : st (36 + 6 * k + 3) = st (36 + 6 * k) ∧ st (36 + 6 * k + 4) = st (36 + 6 * k + 1)
        · rw [if_pos f, if_pos (by omega)]
        · rw [if_neg f, if_neg (by omega)]
abbrev rmS : Room := { frames := 8, cells := 1632, slots := 44064, locals := 140 }
set_option maxHeartbeats 4000000 in
set_option maxRecDepth 100000 in
theorem same_a {p : Program} {l : Launch} {e : Jvm.Env} {s : State} {m : MethodId} {args : Array Value} {below : List Frame} {meth : Method} {c : Code} {H H0 : Heap} {Q : State → Prop} {A : Nat → Prop} (hx : p.tables.exec = Jvm.exec) (hb : c.code = cL_same) (hml : c.maxLocals = 13) (hts : ∀ w ∈ ALL, w.before args s = true) (hown : s.vm.findClass RL = some m.cls) {E : Env3} (hK : KB E s) {γ α β : Nat → Nat} {st : S} {nn : Int} {q z r a mm ee : S} (hI : IB 9999 st) (hT : IT st) (hL : LR st q z r a mm ee)
    (hc : va_P E.1 vwCl (fcW E α (γ 0) (γ 1) (γ 2) nn st) H) (hP : va_P E.1 vwCl (lwW E β q z r a mm ee) H) {x : Int32} {locs : List Loc} (hS : va_S A H0 H locs) {ls : Array Slot} (hl : lv_has ls 13 [(0, .ref (γ 0)), (1, .int x), (2, .ref (β 0)), (3, .ref (β 1)), (4, .ref (β 2)), (5, .ref (β 3)), (6, .ref (β 4)), (7, .ref (β 5))])
    (kk : ∀ (locs : List Loc) (ls : Array Slot), va_S A H0 H locs → lv_has ls 13 [(8, .int (I (nR st 36))), (9, .int (I (uR st 36))), (0, .ref (γ 0)), (1, .int x), (2, .ref (β 0)), (3, .ref (β 1)), (4, .ref (β 2)), (5, .ref (β 3)), (6, .ref (β 4)), (7, .ref (β 5))] → W p l e rmS s m args below meth c H locs 0 0 Q (F0 m 376 ls [])) : W p l e rmS s m args below meth c H locs 0 0 Q (F0 m 0 ls []) := by
  have hz9 : ∀ y, y < 6 → z (5 * y) = st (6 + 5 * y) := fun y hy => hL.2.1 _ (by omega)
  have hr9 : ∀ k, k < 36 → r k = eT (st (36 + 6 * k)) (st (36 + 6 * k + 1)) := fun k hk => (hL.2.2 k hk).1.1
  have hq0 : q 0 = st 0 := hL.1 0 (by omega)
  have hTb := hI.1
  refine iv_iconst hx hb dL_same_0 ?_
  refine lv_istore (lv' := [(8, .int (I _)), (0, .ref _), (1, .int _), (2, .ref _), (3, .ref _), (4, .ref _), (5, .ref _), (6, .ref _), (7, .ref _)]) hx hb dL_same_1 hl (by decide) rfl (fun ls hl => ?_)
  refine iv_iconst hx hb dL_same_3 ?_
  refine lv_istore (lv' := [(9, .int (I _)), (8, .int (I _)), (0, .ref _), (1, .int _), (2, .ref _), (3, .ref _), (4, .ref _), (5, .ref _), (6, .ref _), (7, .ref _)]) hx hb dL_same_4 hl (by decide) rfl (fun ls hl => ?_)
  refine iv_iconst hx hb dL_same_6 ?_
  refine lv_istore (lv' := [(10, .int (I _)), (9, .int (I _)), (8, .int (I _)), (0, .ref _), (1, .int _), (2, .ref _), (3, .ref _), (4, .ref _), (5, .ref _), (6, .ref _), (7, .ref _)]) hx hb dL_same_7 hl (by decide) rfl (fun ls hl => ?_)
  have LOOP9 : ∀ (n9 i : Nat), (i + n9 = 6) → ∀ (locs : List Loc) (ls : Array Slot), va_S A H0 H locs → lv_has ls 13 [(8, .int (I (sumN (bz st) i))), (9, .int (I (uZ st i))), (10, .int (I (i : Int))), (0, .ref (γ 0)), (1, .int x), (2, .ref (β 0)), (3, .ref (β 1)), (4, .ref (β 2)), (5, .ref (β 3)), (6, .ref (β 4)), (7, .ref (β 5))] → W p l e rmS s m args below meth c H locs 0 0 Q (F0 m 9 ls []) := by
    intro n9
    induction n9 with
    | zero =>
      intro  i hn8 locs ls hS hl
      obtain rfl : i = 6 := by omega
      refine lv_iload hx hb dL_same_9 (lv_lk hl rfl) ?_
      refine iv_bipush hx hb dL_same_11 (by decide +kernel) ?_
      refine iv_icmp_ge (tgt := 152) hx hb dL_same_13 (by decide) (by omega) (by omega) (fun c_13 => ?_) (fun c_13 => by exfalso; omega)
      refine iv_iconst hx hb dL_same_152 ?_
      refine lv_istore (lv' := [(10, .int (I _)), (8, .int (I _)), (9, .int (I _)), (0, .ref _), (1, .int _), (2, .ref _), (3, .ref _), (4, .ref _), (5, .ref _), (6, .ref _), (7, .ref _)]) hx hb dL_same_153 hl (by decide) rfl (fun ls hl => ?_)
      have LOOP155 : ∀ (n9 k : Nat), (k + n9 = 36) → ∀ (locs : List Loc) (ls : Array Slot), va_S A H0 H locs → lv_has ls 13 [(8, .int (I (nR st k))), (9, .int (I (uR st k))), (10, .int (I (k : Int))), (0, .ref (γ 0)), (1, .int x), (2, .ref (β 0)), (3, .ref (β 1)), (4, .ref (β 2)), (5, .ref (β 3)), (6, .ref (β 4)), (7, .ref (β 5))] → W p l e rmS s m args below meth c H locs 0 0 Q (F0 m 155 ls []) := by
        intro n9
        induction n9 with
        | zero =>
          intro  k hn8 locs ls hS hl
          obtain rfl : k = 36 := by omega
          refine lv_iload hx hb dL_same_155 (lv_lk hl rfl) ?_
          refine iv_bipush hx hb dL_same_157 (by decide +kernel) ?_
          refine iv_icmp_ge (tgt := 376) hx hb dL_same_159 (by decide) (by omega) (by omega) (fun c_159 => ?_) (fun c_159 => by exfalso; omega)
          exact kk _ _ hS (lv_sub hl [0, 1, 3, 4, 5, 6, 7, 8, 9, 10] rfl)
        | succ n9 ih =>
          intro  k hn8 locs ls hS hl
          have hrT := eT_0 hL hI (k := k) (by omega)
          have hmM := eM_0 hL hI (k := k) (by omega)
          have heE := (hL.2.2 k (by omega)).2.2
          have hb1 := (hI.2.2.2 k (by omega)).1
          have hb2 := (hI.2.2.2 k (by omega)).2
          unfold triT at hb1
          unfold triM at hb2
          have hti := hT.2 k (by omega)
          have hlo := left_or st (st (36 + 6 * k + 5))
          have hsn := soon_s (uR_p hI hT k (by omega)) (leftR_p hI hT (r := k) (by omega))
          have hur := untl_rngR hI k (by omega)
          have hur : -1000000 ≤ uR st k ∧ uR st k ≤ 1000000 := hur
          have hold9 := old_law hL hI (k := k) (by omega)
          refine lv_iload hx hb dL_same_155 (lv_lk hl rfl) ?_
          refine iv_bipush hx hb dL_same_157 (by decide +kernel) ?_
          refine iv_icmp_ge (tgt := 376) hx hb dL_same_159 (by decide) (by omega) (by omega) (fun c_159 => by exfalso; omega) (fun c_159 => ?_)
          have CUT183 : ∀ (locs : List Loc) (ls : Array Slot), va_S A H0 H locs → lv_has ls 13 [(8, .int (I (nR st k))), (9, .int (I (uR st k))), (10, .int (I (k : Int))), (0, .ref (γ 0)), (1, .int x), (2, .ref (β 0)), (3, .ref (β 1)), (4, .ref (β 2)), (5, .ref (β 3)), (6, .ref (β 4)), (7, .ref (β 5))] → W p l e rmS s m args below meth c H locs 0 0 Q (F0 m 183 ls [.int (I (left st (st (36 + 6 * k + 5))))]) := by
            intro   locs ls hS hl
            refine lv_istore (lv' := [(11, .int (I _)), (8, .int (I _)), (9, .int (I _)), (10, .int (I _)), (0, .ref _), (1, .int _), (2, .ref _), (3, .ref _), (4, .ref _), (5, .ref _), (6, .ref _), (7, .ref _)]) hx hb dL_same_183 hl (by decide) rfl (fun ls hl => ?_)
            have CUT197 : ∀ (locs : List Loc) (ls : Array Slot), va_S A H0 H locs → lv_has ls 13 [(8, .int (I (nR st k))), (9, .int (I (uR st k))), (10, .int (I (k : Int))), (0, .ref (γ 0)), (1, .int x), (2, .ref (β 0)), (3, .ref (β 1)), (4, .ref (β 2)), (5, .ref (β 3)), (6, .ref (β 4)), (7, .ref (β 5)), (11, .int (I (left st (st (36 + 6 * k + 5)))))] → W p l e rmS s m args below meth c H locs 0 0 Q (F0 m 197 ls [.int (I (br st k)), .int (I (nR st k))]) := by
              intro   locs ls hS hl
              refine iv_iadd hx hb dL_same_197 ?_
              refine iv_eq (nR st (k + 1)) (rfl) ?_
              refine lv_istore (lv' := [(8, .int (I _)), (9, .int (I _)), (10, .int (I _)), (0, .ref _), (1, .int _), (2, .ref _), (3, .ref _), (4, .ref _), (5, .ref _), (6, .ref _), (7, .ref _), (11, .int (I _))]) hx hb dL_same_198 hl (by decide) rfl (fun ls hl => ?_)
              have CUT224 : ∀ (locs : List Loc) (ls : Array Slot), va_S A H0 H locs → lv_has ls 13 [(8, .int (I (nR st (k + 1)))), (9, .int (I (uR st k))), (10, .int (I (k : Int))), (0, .ref (γ 0)), (1, .int x), (2, .ref (β 0)), (3, .ref (β 1)), (4, .ref (β 2)), (5, .ref (β 3)), (6, .ref (β 4)), (7, .ref (β 5)), (11, .int (I (left st (st (36 + 6 * k + 5)))))] → W p l e rmS s m args below meth c H locs 0 0 Q (F0 m 224 ls [.int (I (uR st (k + 1)))]) := by
                intro   locs ls hS hl
                refine lv_istore (lv' := [(9, .int (I _)), (8, .int (I _)), (10, .int (I _)), (0, .ref _), (1, .int _), (2, .ref _), (3, .ref _), (4, .ref _), (5, .ref _), (6, .ref _), (7, .ref _), (11, .int (I _))]) hx hb dL_same_224 hl (by decide) rfl (fun ls hl => ?_)
                have CUT271 : ∀ (locs : List Loc) (ls : Array Slot), va_S A H0 H locs → lv_has ls 13 [(8, .int (I (nR st (k + 1)))), (9, .int (I (uR st (k + 1)))), (10, .int (I (k : Int))), (0, .ref (γ 0)), (1, .int x), (2, .ref (β 0)), (3, .ref (β 1)), (4, .ref (β 2)), (5, .ref (β 3)), (6, .ref (β 4)), (7, .ref (β 5)), (11, .int (I (left st (st (36 + 6 * k + 5)))))] → W p l e rmS s m args below meth c H locs 0 0 Q (F0 m 271 ls [.int (I (st (36 + 6 * k + 1))), .int (I (st (36 + 6 * k + 1)))]) := by
                  intro   locs ls hS hl
                  refine lv_icmp_ne (tgt := 368) hx hb dL_same_271 (by decide) (fun h9 => absurd rfl h9) (fun _ => ?_)
                  refine lv_aload_n hx hb dL_same_274 rfl (lv_lk hl rfl) ?_
                  refine lv_iload hx hb dL_same_275 (lv_lk hl rfl) ?_
                  refine call_S (va_runV ⟨hx, hb, hml, hown, hts⟩ (m_X5_rememberedOf_ok l E α (γ 0) (γ 1) (γ 2) nn st k (by omega)) (cwV 1 hts (gi_V ml_L_57 im_X5_rememberedOf sl_X5_rememberedOf it_X5 cd_X5_rememberedOf) rfl rfl rfl (by decide +kernel) ⟨Nat.le_of_ble_eq_true rfl, Nat.le_of_ble_eq_true rfl⟩) (pR_V (q0 := 0) (ci := 5) hc hK rfl rfl) rfl rfl hl.1 rfl (lv_room (Nat.le_of_ble_eq_true rfl)) dL_same_277 ⟨Nat.le_of_ble_eq_true rfl, Nat.le_of_ble_eq_true rfl⟩) (fun _ h => h) hS rfl (fun locs hS => ?_)
                  refine lv_aload hx hb dL_same_280 (lv_lk hl rfl) ?_
                  refine lv_iload hx hb dL_same_282 (lv_lk hl rfl) ?_
                  refine iv_iald hx hb hK hP 4 rfl (k) (by omega) (by omega) dL_same_284 ?_
                  refine iv_sipush hx hb dL_same_285 (by decide +kernel) ?_
                  refine iv_idiv hx hb dL_same_288 (st (36 + 6 * k + 3)) (by rw [dv_T (by omega)]; exact congrArg I (by omega)) (by omega) ?_
                  refine lv_icmp_ne (tgt := 368) hx hb dL_same_289 (by decide) (fun h9 => absurd rfl h9) (fun _ => ?_)
                  refine lv_aload_n hx hb dL_same_292 rfl (lv_lk hl rfl) ?_
                  refine lv_iload hx hb dL_same_293 (lv_lk hl rfl) ?_
                  refine call_S (va_runV ⟨hx, hb, hml, hown, hts⟩ (m_X5_ticksLeftOf_ok l E α (γ 0) (γ 1) (γ 2) nn st 9999 hI k (by omega)) (cwV 1 hts (gi_V ml_L_60 im_X5_ticksLeftOf sl_X5_ticksLeftOf it_X5 cd_X5_ticksLeftOf) rfl rfl rfl (by decide +kernel) ⟨Nat.le_of_ble_eq_true rfl, Nat.le_of_ble_eq_true rfl⟩) (pR_V (q0 := 0) (ci := 5) hc hK rfl rfl) rfl rfl hl.1 rfl (lv_room (Nat.le_of_ble_eq_true rfl)) dL_same_295 ⟨Nat.le_of_ble_eq_true rfl, Nat.le_of_ble_eq_true rfl⟩) (fun _ h => h) hS rfl (fun locs hS => ?_)
                  refine lv_iload hx hb dL_same_298 (lv_lk hl rfl) ?_
                  refine lv_icmp_ne (tgt := 368) hx hb dL_same_300 (by decide) (fun h9 => absurd rfl h9) (fun _ => ?_)
                  refine lv_aload_n hx hb dL_same_303 rfl (lv_lk hl rfl) ?_
                  refine lv_iload hx hb dL_same_304 (lv_lk hl rfl) ?_
                  refine call_S (va_runV ⟨hx, hb, hml, hown, hts⟩ (m_X5_truthOf_ok l E α (γ 0) (γ 1) (γ 2) nn st 9999 hI hT k (by omega)) (cwV 1 hts (gi_V ml_L_63 im_X5_truthOf sl_X5_truthOf it_X5 cd_X5_truthOf) rfl rfl rfl (by decide +kernel) ⟨Nat.le_of_ble_eq_true rfl, Nat.le_of_ble_eq_true rfl⟩) (pR_V (q0 := 0) (ci := 5) hc hK rfl rfl) rfl rfl hl.1 rfl (lv_room (Nat.le_of_ble_eq_true rfl)) dL_same_306 ⟨Nat.le_of_ble_eq_true rfl, Nat.le_of_ble_eq_true rfl⟩) (fun _ h => h) hS rfl (fun locs hS => ?_)
                  refine lv_iload hx hb dL_same_309 (lv_lk hl rfl) ?_
                  refine lv_aload hx hb dL_same_311 (lv_lk hl rfl) ?_
                  refine call_S (va_runS ⟨hx, hb, hml, hown, hts⟩ (m_L_truth l E (β 2) r 9999 st hI hr9 k (by omega)) (va_cwS 2 hts (gi_S ml_L_66 st_L_truth it_L cd_L_truth) rfl rfl rfl (by decide +kernel) ⟨Nat.le_of_ble_eq_true rfl, Nat.le_of_ble_eq_true rfl⟩) (pR_S (hP.sub (ws' := [(β 2, iA E 36 r)]) [2] rfl) hK) rfl rfl hl.1 rfl (lv_room (Nat.le_of_ble_eq_true rfl)) dL_same_313 ⟨Nat.le_of_ble_eq_true rfl, Nat.le_of_ble_eq_true rfl⟩) (fun _ h => h) hS rfl (fun locs hS => ?_)
                  refine lv_icmp_ne (tgt := 368) hx hb dL_same_316 (by decide) (fun h9 => absurd rfl h9) (fun _ => ?_)
                  refine lv_aload_n hx hb dL_same_319 rfl (lv_lk hl rfl) ?_
                  refine lv_iload hx hb dL_same_320 (lv_lk hl rfl) ?_
                  refine call_S (va_runV ⟨hx, hb, hml, hown, hts⟩ (m_X5_isOutOfDate_ok l E α (γ 0) (γ 1) (γ 2) nn st 9999 hI k (by omega)) (cwV 1 hts (gi_V ml_L_69 im_X5_isOutOfDate sl_X5_isOutOfDate it_X5 cd_X5_isOutOfDate) rfl rfl rfl (by decide +kernel) ⟨Nat.le_of_ble_eq_true rfl, Nat.le_of_ble_eq_true rfl⟩) (pR_V (q0 := 0) (ci := 5) hc hK rfl rfl) rfl rfl hl.1 rfl (lv_room (Nat.le_of_ble_eq_true rfl)) dL_same_322 ⟨Nat.le_of_ble_eq_true rfl, Nat.le_of_ble_eq_true rfl⟩) (fun _ h => h) hS rfl (fun locs hS => ?_)
                  refine lv_aload hx hb dL_same_325 (lv_lk hl rfl) ?_
                  refine lv_iload hx hb dL_same_327 (lv_lk hl rfl) ?_
                  refine iv_iald hx hb hK hP 4 rfl (k) (by omega) (by omega) dL_same_329 ?_
                  refine iv_if_eq (tgt := 364) hx hb dL_same_330 (by decide) (by omega) (fun c_330 => ?_) (fun c_330 => ?_)
                  · refine iv_iconst hx hb dL_same_364 ?_
                    refine iv_eq (oldI st k) (by rw [hold9, if_pos c_330]) ?_
                    refine lv_icmp_eq (tgt := 370) hx hb dL_same_365 (by decide) (fun _ => ?_) (fun h9 => absurd rfl h9)
                    refine iv_iinc (k := 2) hx hb dL_same_370 hl rfl (((k + 1 : Nat) : Int)) (by omega) (by decide) [(10, .int (I _)), (8, .int (I _)), (9, .int (I _)), (0, .ref _), (1, .int _), (2, .ref _), (3, .ref _), (4, .ref _), (5, .ref _), (6, .ref _), (7, .ref _), (11, .int (I _))] rfl (fun ls hl => ?_)
                    refine lv_goto (tgt := 155) hx hb dL_same_373 (by decide) ?_
                    exact ih (k + 1) (by omega) locs ls hS (lv_sub hl [1, 2, 0, 3, 4, 5, 6, 7, 8, 9, 10] rfl)
                  · refine lv_aload hx hb dL_same_333 (lv_lk hl rfl) ?_
                    refine lv_iload hx hb dL_same_335 (lv_lk hl rfl) ?_
                    refine iv_iald hx hb hK hP 4 rfl (k) (by omega) (by omega) dL_same_337 ?_
                    refine lv_aload hx hb dL_same_338 (lv_lk hl rfl) ?_
                    refine lv_iload hx hb dL_same_340 (lv_lk hl rfl) ?_
                    refine iv_iald hx hb hK hP 2 rfl (k) (by omega) (by omega) dL_same_342 ?_
                    refine iv_if_ne (tgt := 352) hx hb dL_same_343 (by decide) (by omega) (fun c_343 => ?_) (fun c_343 => ?_)
                    · refine lv_aload hx hb dL_same_352 (lv_lk hl rfl) ?_
                      refine lv_iload hx hb dL_same_354 (lv_lk hl rfl) ?_
                      refine iv_iald hx hb hK hP 2 rfl (k) (by omega) (by omega) dL_same_356 ?_
                      refine iv_icmp_eq (tgt := 364) hx hb dL_same_357 (by decide) (by omega) (by omega) (fun c_357 => ?_) (fun c_357 => ?_)
                      · refine iv_iconst hx hb dL_same_364 ?_
                        refine iv_eq (oldI st k) (by rw [hold9, if_neg c_330, if_neg c_343, if_pos c_357]) ?_
                        refine lv_icmp_eq (tgt := 370) hx hb dL_same_365 (by decide) (fun _ => ?_) (fun h9 => absurd rfl h9)
                        refine iv_iinc (k := 2) hx hb dL_same_370 hl rfl (((k + 1 : Nat) : Int)) (by omega) (by decide) [(10, .int (I _)), (8, .int (I _)), (9, .int (I _)), (0, .ref _), (1, .int _), (2, .ref _), (3, .ref _), (4, .ref _), (5, .ref _), (6, .ref _), (7, .ref _), (11, .int (I _))] rfl (fun ls hl => ?_)
                        refine lv_goto (tgt := 155) hx hb dL_same_373 (by decide) ?_
                        exact ih (k + 1) (by omega) locs ls hS (lv_sub hl [1, 2, 0, 3, 4, 5, 6, 7, 8, 9, 10] rfl)
                      · refine iv_iconst hx hb dL_same_360 ?_
                        refine lv_goto (tgt := 365) hx hb dL_same_361 (by decide) ?_
                        refine iv_eq (oldI st k) (by rw [hold9, if_neg c_330, if_neg c_343, if_neg c_357]) ?_
                        refine lv_icmp_eq (tgt := 370) hx hb dL_same_365 (by decide) (fun _ => ?_) (fun h9 => absurd rfl h9)
                        refine iv_iinc (k := 2) hx hb dL_same_370 hl rfl (((k + 1 : Nat) : Int)) (by omega) (by decide) [(10, .int (I _)), (8, .int (I _)), (9, .int (I _)), (0, .ref _), (1, .int _), (2, .ref _), (3, .ref _), (4, .ref _), (5, .ref _), (6, .ref _), (7, .ref _), (11, .int (I _))] rfl (fun ls hl => ?_)
                        refine lv_goto (tgt := 155) hx hb dL_same_373 (by decide) ?_
                        exact ih (k + 1) (by omega) locs ls hS (lv_sub hl [1, 2, 0, 3, 4, 5, 6, 7, 8, 9, 10] rfl)
                    · refine iv_sipush hx hb dL_same_346 (by decide +kernel) ?_
                      refine lv_goto (tgt := 357) hx hb dL_same_349 (by decide) ?_
                      refine iv_icmp_eq (tgt := 364) hx hb dL_same_357 (by decide) (by omega) (by omega) (fun c_357 => ?_) (fun c_357 => ?_)
                      · refine iv_iconst hx hb dL_same_364 ?_
                        refine iv_eq (oldI st k) (by rw [hold9, if_neg c_330, if_pos c_343, if_pos c_357]) ?_
                        refine lv_icmp_eq (tgt := 370) hx hb dL_same_365 (by decide) (fun _ => ?_) (fun h9 => absurd rfl h9)
                        refine iv_iinc (k := 2) hx hb dL_same_370 hl rfl (((k + 1 : Nat) : Int)) (by omega) (by decide) [(10, .int (I _)), (8, .int (I _)), (9, .int (I _)), (0, .ref _), (1, .int _), (2, .ref _), (3, .ref _), (4, .ref _), (5, .ref _), (6, .ref _), (7, .ref _), (11, .int (I _))] rfl (fun ls hl => ?_)
                        refine lv_goto (tgt := 155) hx hb dL_same_373 (by decide) ?_
                        exact ih (k + 1) (by omega) locs ls hS (lv_sub hl [1, 2, 0, 3, 4, 5, 6, 7, 8, 9, 10] rfl)
                      · refine iv_iconst hx hb dL_same_360 ?_
                        refine lv_goto (tgt := 365) hx hb dL_same_361 (by decide) ?_
                        refine iv_eq (oldI st k) (by rw [hold9, if_neg c_330, if_pos c_343, if_neg c_357]) ?_
                        refine lv_icmp_eq (tgt := 370) hx hb dL_same_365 (by decide) (fun _ => ?_) (fun h9 => absurd rfl h9)
                        refine iv_iinc (k := 2) hx hb dL_same_370 hl rfl (((k + 1 : Nat) : Int)) (by omega) (by decide) [(10, .int (I _)), (8, .int (I _)), (9, .int (I _)), (0, .ref _), (1, .int _), (2, .ref _), (3, .ref _), (4, .ref _), (5, .ref _), (6, .ref _), (7, .ref _), (11, .int (I _))] rfl (fun ls hl => ?_)
                        refine lv_goto (tgt := 155) hx hb dL_same_373 (by decide) ?_
                        exact ih (k + 1) (by omega) locs ls hS (lv_sub hl [1, 2, 0, 3, 4, 5, 6, 7, 8, 9, 10] rfl)
                refine lv_aload_n hx hb dL_same_226 rfl (lv_lk hl rfl) ?_
                refine lv_iload hx hb dL_same_227 (lv_lk hl rfl) ?_
                refine call_S (va_runV ⟨hx, hb, hml, hown, hts⟩ (m_X5_kindOf_ok l E α (γ 0) (γ 1) (γ 2) nn st k (by omega)) (cwV 1 hts (gi_V ml_L_51 im_X5_kindOf sl_X5_kindOf it_X5 cd_X5_kindOf) rfl rfl rfl (by decide +kernel) ⟨Nat.le_of_ble_eq_true rfl, Nat.le_of_ble_eq_true rfl⟩) (pR_V (q0 := 0) (ci := 5) hc hK rfl rfl) rfl rfl hl.1 rfl (lv_room (Nat.le_of_ble_eq_true rfl)) dL_same_229 ⟨Nat.le_of_ble_eq_true rfl, Nat.le_of_ble_eq_true rfl⟩) (fun _ h => h) hS rfl (fun locs hS => ?_)
                refine lv_aload hx hb dL_same_232 (lv_lk hl rfl) ?_
                refine lv_iload hx hb dL_same_234 (lv_lk hl rfl) ?_
                refine iv_iald hx hb hK hP 2 rfl (k) (by omega) (by omega) dL_same_236 ?_
                refine iv_sipush hx hb dL_same_237 (by decide +kernel) ?_
                refine iv_idiv hx hb dL_same_240 (st (36 + 6 * k)) (by rw [dv_T (by omega)]; exact congrArg I (by omega)) (by omega) ?_
                refine lv_icmp_ne (tgt := 368) hx hb dL_same_241 (by decide) (fun h9 => absurd rfl h9) (fun _ => ?_)
                refine lv_aload_n hx hb dL_same_244 rfl (lv_lk hl rfl) ?_
                refine lv_iload hx hb dL_same_245 (lv_lk hl rfl) ?_
                refine call_S (va_runV ⟨hx, hb, hml, hown, hts⟩ (m_X5_valueOf_ok l E α (γ 0) (γ 1) (γ 2) nn st k (by omega)) (cwV 1 hts (gi_V ml_L_54 im_X5_valueOf sl_X5_valueOf it_X5 cd_X5_valueOf) rfl rfl rfl (by decide +kernel) ⟨Nat.le_of_ble_eq_true rfl, Nat.le_of_ble_eq_true rfl⟩) (pR_V (q0 := 0) (ci := 5) hc hK rfl rfl) rfl rfl hl.1 rfl (lv_room (Nat.le_of_ble_eq_true rfl)) dL_same_247 ⟨Nat.le_of_ble_eq_true rfl, Nat.le_of_ble_eq_true rfl⟩) (fun _ h => h) hS rfl (fun locs hS => ?_)
                refine lv_aload hx hb dL_same_250 (lv_lk hl rfl) ?_
                refine lv_iload hx hb dL_same_252 (lv_lk hl rfl) ?_
                refine iv_iald hx hb hK hP 2 rfl (k) (by omega) (by omega) dL_same_254 ?_
                refine iv_if_ne (tgt := 262) hx hb dL_same_255 (by decide) (by omega) (fun c_255 => ?_) (fun c_255 => ?_)
                · refine lv_aload hx hb dL_same_262 (lv_lk hl rfl) ?_
                  refine lv_iload hx hb dL_same_264 (lv_lk hl rfl) ?_
                  refine iv_iald hx hb hK hP 2 rfl (k) (by omega) (by omega) dL_same_266 ?_
                  refine iv_sipush hx hb dL_same_267 (by decide +kernel) ?_
                  refine iv_irem hx hb dL_same_270 (st (36 + 6 * k + 1)) (by rw [md_T (by omega)]; exact congrArg I (by omega)) (by omega) ?_
                  exact CUT271  _ _ hS (lv_sub hl [1, 0, 2, 3, 4, 5, 6, 7, 8, 9, 10, 11] rfl)
                · refine iv_iconst hx hb dL_same_258 ?_
                  refine lv_goto (tgt := 271) hx hb dL_same_259 (by decide) ?_
                  refine iv_eq (st (36 + 6 * k + 1)) (by omega) ?_
                  exact CUT271  _ _ hS (lv_sub hl [1, 0, 2, 3, 4, 5, 6, 7, 8, 9, 10, 11] rfl)
              refine lv_iload hx hb dL_same_200 (lv_lk hl rfl) ?_
              refine iv_if_le (tgt := 222) hx hb dL_same_202 (by decide) (by omega) (fun c_202 => ?_) (fun c_202 => ?_)
              · refine lv_iload hx hb dL_same_222 (lv_lk hl rfl) ?_
                refine iv_eq (uR st (k + 1)) (show uR st k = sooner (uR st k) (left st (st (36 + 6 * k + 5))) from by rw [hsn, if_neg (by omega)]) ?_
                exact CUT224  _ _ hS (lv_sub hl [0, 1, 2, 3, 4, 5, 6, 7, 8, 9, 10, 11] rfl)
              · refine lv_iload hx hb dL_same_205 (lv_lk hl rfl) ?_
                refine iv_if_lt (tgt := 217) hx hb dL_same_207 (by decide) (by omega) (fun c_207 => ?_) (fun c_207 => ?_)
                · refine lv_iload hx hb dL_same_217 (lv_lk hl rfl) ?_
                  refine lv_goto (tgt := 224) hx hb dL_same_219 (by decide) ?_
                  refine iv_eq (uR st (k + 1)) (show (left st (st (36 + 6 * k + 5))) = sooner (uR st k) (left st (st (36 + 6 * k + 5))) from by rw [hsn, if_pos (by omega)]) ?_
                  exact CUT224  _ _ hS (lv_sub hl [0, 1, 2, 3, 4, 5, 6, 7, 8, 9, 10, 11] rfl)
                · refine lv_iload hx hb dL_same_210 (lv_lk hl rfl) ?_
                  refine lv_iload hx hb dL_same_212 (lv_lk hl rfl) ?_
                  refine iv_icmp_ge (tgt := 222) hx hb dL_same_214 (by decide) (by omega) (by omega) (fun c_214 => ?_) (fun c_214 => ?_)
                  · refine lv_iload hx hb dL_same_222 (lv_lk hl rfl) ?_
                    refine iv_eq (uR st (k + 1)) (show uR st k = sooner (uR st k) (left st (st (36 + 6 * k + 5))) from by rw [hsn, if_neg (by omega)]) ?_
                    exact CUT224  _ _ hS (lv_sub hl [0, 1, 2, 3, 4, 5, 6, 7, 8, 9, 10, 11] rfl)
                  · refine lv_iload hx hb dL_same_217 (lv_lk hl rfl) ?_
                    refine lv_goto (tgt := 224) hx hb dL_same_219 (by decide) ?_
                    refine iv_eq (uR st (k + 1)) (show (left st (st (36 + 6 * k + 5))) = sooner (uR st k) (left st (st (36 + 6 * k + 5))) from by rw [hsn, if_pos (by omega)]) ?_
                    exact CUT224  _ _ hS (lv_sub hl [0, 1, 2, 3, 4, 5, 6, 7, 8, 9, 10, 11] rfl)
            refine lv_iload hx hb dL_same_185 (lv_lk hl rfl) ?_
            refine lv_iload hx hb dL_same_187 (lv_lk hl rfl) ?_
            refine iv_if_le (tgt := 196) hx hb dL_same_189 (by decide) (by omega) (fun c_189 => ?_) (fun c_189 => ?_)
            · refine iv_iconst hx hb dL_same_196 ?_
              refine iv_eq (br st k) (by unfold br; rw [if_neg (by omega)]) ?_
              exact CUT197  _ _ hS (lv_sub hl [1, 2, 3, 4, 5, 6, 7, 8, 9, 10, 11, 0] rfl)
            · refine iv_iconst hx hb dL_same_192 ?_
              refine lv_goto (tgt := 197) hx hb dL_same_193 (by decide) ?_
              refine iv_eq (br st k) (by unfold br; rw [if_pos (by omega)]) ?_
              exact CUT197  _ _ hS (lv_sub hl [1, 2, 3, 4, 5, 6, 7, 8, 9, 10, 11, 0] rfl)
          refine lv_aload hx hb dL_same_162 (lv_lk hl rfl) ?_
          refine lv_iload hx hb dL_same_164 (lv_lk hl rfl) ?_
          refine iv_iald hx hb hK hP 4 rfl (k) (by omega) (by omega) dL_same_166 ?_
          refine iv_if_ne (tgt := 174) hx hb dL_same_167 (by decide) (by omega) (fun c_167 => ?_) (fun c_167 => ?_)
          · have heE := heE (by omega)
            refine lv_aload hx hb dL_same_174 (lv_lk hl rfl) ?_
            refine lv_iload hx hb dL_same_176 (lv_lk hl rfl) ?_
            refine iv_iald hx hb hK hP 5 rfl (k) (by omega) (by omega) dL_same_178 ?_
            refine lv_aload_n hx hb dL_same_179 rfl (lv_lk hl rfl) ?_
            refine iv_iconst hx hb dL_same_180 ?_
            refine iv_iald hx hb hK hP 0 rfl (0) (by omega) (by omega) dL_same_181 ?_
            refine iv_isub hx hb dL_same_182 ?_
            refine iv_eq (left st (st (36 + 6 * k + 5))) (by omega) ?_
            exact CUT183  _ _ hS (lv_sub hl [0, 1, 2, 3, 4, 5, 6, 7, 8, 9, 10] rfl)
          · refine iv_iconst hx hb dL_same_170 ?_
            refine lv_goto (tgt := 183) hx hb dL_same_171 (by decide) ?_
            refine iv_eq (left st (st (36 + 6 * k + 5))) (by omega) ?_
            exact CUT183  _ _ hS (lv_sub hl [0, 1, 2, 3, 4, 5, 6, 7, 8, 9, 10] rfl)
      exact LOOP155 36 0 (by omega) _ _ hS (lv_sub hl [1, 2, 0, 3, 4, 5, 6, 7, 8, 9, 10] rfl)
    | succ n9 ih =>
      intro  i hn8 locs ls hS hl
      have hzp : z (5 * i) = st (6 + 5 * i) := by rw [hL.2.1 _ (by omega)]
      have hze : z (5 * i + 3) = st (6 + 5 * i + 3) := by rw [hL.2.1 _ (by omega)]; exact congrArg st (by omega)
      have hza : z (5 * i + 4) = st (6 + 5 * i + 4) := by rw [hL.2.1 _ (by omega)]; exact congrArg st (by omega)
      have hzb := hI.2.2.1 i (by omega)
      unfold zoneB at hzb
      have hti := hT.1 i (by omega)
      have hlo := left_or st (st (6 + 5 * i + 3))
      have hsn := soon_s (uZ_p hT i (by omega)) (leftZ_p hT (z := i) (by omega))
      have hur := untl_rngZ hI i (by omega)
      have hur : -1000000 ≤ uZ st i ∧ uZ st i ≤ 1000000 := hur
      refine lv_iload hx hb dL_same_9 (lv_lk hl rfl) ?_
      refine iv_bipush hx hb dL_same_11 (by decide +kernel) ?_
      refine iv_icmp_ge (tgt := 152) hx hb dL_same_13 (by decide) (by omega) (by omega) (fun c_13 => by exfalso; omega) (fun c_13 => ?_)
      have CUT43 : ∀ (locs : List Loc) (ls : Array Slot), va_S A H0 H locs → lv_has ls 13 [(8, .int (I (sumN (bz st) i))), (9, .int (I (uZ st i))), (10, .int (I (i : Int))), (0, .ref (γ 0)), (1, .int x), (2, .ref (β 0)), (3, .ref (β 1)), (4, .ref (β 2)), (5, .ref (β 3)), (6, .ref (β 4)), (7, .ref (β 5))] → W p l e rmS s m args below meth c H locs 0 0 Q (F0 m 43 ls [.int (I (left st (st (6 + 5 * i + 3))))]) := by
        intro   locs ls hS hl
        refine lv_istore (lv' := [(11, .int (I _)), (8, .int (I _)), (9, .int (I _)), (10, .int (I _)), (0, .ref _), (1, .int _), (2, .ref _), (3, .ref _), (4, .ref _), (5, .ref _), (6, .ref _), (7, .ref _)]) hx hb dL_same_43 hl (by decide) rfl (fun ls hl => ?_)
        have CUT57 : ∀ (locs : List Loc) (ls : Array Slot), va_S A H0 H locs → lv_has ls 13 [(8, .int (I (sumN (bz st) i))), (9, .int (I (uZ st i))), (10, .int (I (i : Int))), (0, .ref (γ 0)), (1, .int x), (2, .ref (β 0)), (3, .ref (β 1)), (4, .ref (β 2)), (5, .ref (β 3)), (6, .ref (β 4)), (7, .ref (β 5)), (11, .int (I (left st (st (6 + 5 * i + 3)))))] → W p l e rmS s m args below meth c H locs 0 0 Q (F0 m 57 ls [.int (I (bz st i)), .int (I (sumN (bz st) i))]) := by
          intro   locs ls hS hl
          refine iv_iadd hx hb dL_same_57 ?_
          refine iv_eq (sumN (bz st) (i + 1)) (rfl) ?_
          refine lv_istore (lv' := [(8, .int (I _)), (9, .int (I _)), (10, .int (I _)), (0, .ref _), (1, .int _), (2, .ref _), (3, .ref _), (4, .ref _), (5, .ref _), (6, .ref _), (7, .ref _), (11, .int (I _))]) hx hb dL_same_58 hl (by decide) rfl (fun ls hl => ?_)
          have CUT84 : ∀ (locs : List Loc) (ls : Array Slot), va_S A H0 H locs → lv_has ls 13 [(8, .int (I (sumN (bz st) (i + 1)))), (9, .int (I (uZ st i))), (10, .int (I (i : Int))), (0, .ref (γ 0)), (1, .int x), (2, .ref (β 0)), (3, .ref (β 1)), (4, .ref (β 2)), (5, .ref (β 3)), (6, .ref (β 4)), (7, .ref (β 5)), (11, .int (I (left st (st (6 + 5 * i + 3)))))] → W p l e rmS s m args below meth c H locs 0 0 Q (F0 m 84 ls [.int (I (uZ st (i + 1)))]) := by
            intro   locs ls hS hl
            refine lv_istore (lv' := [(9, .int (I _)), (8, .int (I _)), (10, .int (I _)), (0, .ref _), (1, .int _), (2, .ref _), (3, .ref _), (4, .ref _), (5, .ref _), (6, .ref _), (7, .ref _), (11, .int (I _))]) hx hb dL_same_84 hl (by decide) rfl (fun ls hl => ?_)
            refine lv_aload_n hx hb dL_same_86 rfl (lv_lk hl rfl) ?_
            refine lv_iload hx hb dL_same_87 (lv_lk hl rfl) ?_
            refine call_S (va_runV ⟨hx, hb, hml, hown, hts⟩ (m_X5_parentOf_ok l E α (γ 0) (γ 1) (γ 2) nn st i (by omega)) (cwV 1 hts (gi_V ml_L_32 im_X5_parentOf sl_X5_parentOf it_X5 cd_X5_parentOf) rfl rfl rfl (by decide +kernel) ⟨Nat.le_of_ble_eq_true rfl, Nat.le_of_ble_eq_true rfl⟩) (pR_V (q0 := 0) (ci := 5) hc hK rfl rfl) rfl rfl hl.1 rfl (lv_room (Nat.le_of_ble_eq_true rfl)) dL_same_89 ⟨Nat.le_of_ble_eq_true rfl, Nat.le_of_ble_eq_true rfl⟩) (fun _ h => h) hS rfl (fun locs hS => ?_)
            refine lv_aload_n hx hb dL_same_92 rfl (lv_lk hl rfl) ?_
            refine iv_iconst hx hb dL_same_93 ?_
            refine lv_iload hx hb dL_same_94 (lv_lk hl rfl) ?_
            refine iv_imul hx hb dL_same_96 ?_
            refine iv_iald hx hb hK hP 1 rfl (5 * i) (by omega) (by omega) dL_same_97 ?_
            refine iv_eq (st (6 + 5 * i)) hzp ?_
            refine lv_icmp_ne (tgt := 144) hx hb dL_same_98 (by decide) (fun h9 => absurd rfl h9) (fun _ => ?_)
            refine lv_aload_n hx hb dL_same_101 rfl (lv_lk hl rfl) ?_
            refine lv_iload hx hb dL_same_102 (lv_lk hl rfl) ?_
            refine call_S (va_runV ⟨hx, hb, hml, hown, hts⟩ (m_X5_depthOf_ok l E α (γ 0) (γ 1) (γ 2) nn st 9999 hI i (by omega)) (cwV 1 hts (gi_V ml_L_38 im_X5_depthOf sl_X5_depthOf it_X5 cd_X5_depthOf) rfl rfl rfl (by decide +kernel) ⟨Nat.le_of_ble_eq_true rfl, Nat.le_of_ble_eq_true rfl⟩) (pR_V (q0 := 0) (ci := 5) hc hK rfl rfl) rfl rfl hl.1 rfl (lv_room (Nat.le_of_ble_eq_true rfl)) dL_same_104 ⟨Nat.le_of_ble_eq_true rfl, Nat.le_of_ble_eq_true rfl⟩) (fun _ h => h) hS rfl (fun locs hS => ?_)
            refine lv_iload hx hb dL_same_107 (lv_lk hl rfl) ?_
            refine lv_aload_n hx hb dL_same_109 rfl (lv_lk hl rfl) ?_
            refine call_S (va_runS ⟨hx, hb, hml, hown, hts⟩ (m_L_depth l E (β 1) z 9999 st hI hz9 i (by omega)) (va_cwS 2 hts (gi_S ml_L_41 st_L_depth it_L cd_L_depth) rfl rfl rfl (by decide +kernel) ⟨Nat.le_of_ble_eq_true rfl, Nat.le_of_ble_eq_true rfl⟩) (pR_S (hP.sub (ws' := [(β 1, iA E 30 z)]) [1] rfl) hK) rfl rfl hl.1 rfl (lv_room (Nat.le_of_ble_eq_true rfl)) dL_same_110 ⟨Nat.le_of_ble_eq_true rfl, Nat.le_of_ble_eq_true rfl⟩) (fun _ h => h) hS rfl (fun locs hS => ?_)
            refine lv_icmp_ne (tgt := 144) hx hb dL_same_113 (by decide) (fun h9 => absurd rfl h9) (fun _ => ?_)
            refine lv_aload_n hx hb dL_same_116 rfl (lv_lk hl rfl) ?_
            refine lv_iload hx hb dL_same_117 (lv_lk hl rfl) ?_
            refine call_S (va_runV ⟨hx, hb, hml, hown, hts⟩ (m_X5_referralLeft_ok l E α (γ 0) (γ 1) (γ 2) nn st 9999 hI i (by omega)) (cwV 1 hts (gi_V ml_L_45 im_X5_referralLeft sl_X5_referralLeft it_X5 cd_X5_referralLeft) rfl rfl rfl (by decide +kernel) ⟨Nat.le_of_ble_eq_true rfl, Nat.le_of_ble_eq_true rfl⟩) (pR_V (q0 := 0) (ci := 5) hc hK rfl rfl) rfl rfl hl.1 rfl (lv_room (Nat.le_of_ble_eq_true rfl)) dL_same_119 ⟨Nat.le_of_ble_eq_true rfl, Nat.le_of_ble_eq_true rfl⟩) (fun _ h => h) hS rfl (fun locs hS => ?_)
            refine lv_iload hx hb dL_same_122 (lv_lk hl rfl) ?_
            refine lv_icmp_ne (tgt := 144) hx hb dL_same_124 (by decide) (fun h9 => absurd rfl h9) (fun _ => ?_)
            refine lv_aload_n hx hb dL_same_127 rfl (lv_lk hl rfl) ?_
            refine lv_iload hx hb dL_same_128 (lv_lk hl rfl) ?_
            refine call_S (va_runV ⟨hx, hb, hml, hown, hts⟩ (m_X5_questionsTo_ok l E α (γ 0) (γ 1) (γ 2) nn st i (by omega)) (cwV 1 hts (gi_V ml_L_48 im_X5_questionsTo sl_X5_questionsTo it_X5 cd_X5_questionsTo) rfl rfl rfl (by decide +kernel) ⟨Nat.le_of_ble_eq_true rfl, Nat.le_of_ble_eq_true rfl⟩) (pR_V (q0 := 0) (ci := 5) hc hK rfl rfl) rfl rfl hl.1 rfl (lv_room (Nat.le_of_ble_eq_true rfl)) dL_same_130 ⟨Nat.le_of_ble_eq_true rfl, Nat.le_of_ble_eq_true rfl⟩) (fun _ h => h) hS rfl (fun locs hS => ?_)
            refine lv_aload_n hx hb dL_same_133 rfl (lv_lk hl rfl) ?_
            refine iv_iconst hx hb dL_same_134 ?_
            refine lv_iload hx hb dL_same_135 (lv_lk hl rfl) ?_
            refine iv_imul hx hb dL_same_137 ?_
            refine iv_iconst hx hb dL_same_138 ?_
            refine iv_iadd hx hb dL_same_139 ?_
            refine iv_iald hx hb hK hP 1 rfl (5 * i + 4) (by omega) (by omega) dL_same_140 ?_
            refine iv_eq (st (6 + 5 * i + 4)) hza ?_
            refine lv_icmp_eq (tgt := 146) hx hb dL_same_141 (by decide) (fun _ => ?_) (fun h9 => absurd rfl h9)
            refine iv_iinc (k := 2) hx hb dL_same_146 hl rfl (((i + 1 : Nat) : Int)) (by omega) (by decide) [(10, .int (I _)), (9, .int (I _)), (8, .int (I _)), (0, .ref _), (1, .int _), (2, .ref _), (3, .ref _), (4, .ref _), (5, .ref _), (6, .ref _), (7, .ref _), (11, .int (I _))] rfl (fun ls hl => ?_)
            refine lv_goto (tgt := 9) hx hb dL_same_149 (by decide) ?_
            exact ih (i + 1) (by omega) locs ls hS (lv_sub hl [2, 1, 0, 3, 4, 5, 6, 7, 8, 9, 10] rfl)
          refine lv_iload hx hb dL_same_60 (lv_lk hl rfl) ?_
          refine iv_if_le (tgt := 82) hx hb dL_same_62 (by decide) (by omega) (fun c_62 => ?_) (fun c_62 => ?_)
          · refine lv_iload hx hb dL_same_82 (lv_lk hl rfl) ?_
            refine iv_eq (uZ st (i + 1)) (show uZ st i = sooner (uZ st i) (left st (st (6 + 5 * i + 3))) from by rw [hsn, if_neg (by omega)]) ?_
            exact CUT84  _ _ hS (lv_sub hl [0, 1, 2, 3, 4, 5, 6, 7, 8, 9, 10, 11] rfl)
          · refine lv_iload hx hb dL_same_65 (lv_lk hl rfl) ?_
            refine iv_if_lt (tgt := 77) hx hb dL_same_67 (by decide) (by omega) (fun c_67 => ?_) (fun c_67 => ?_)
            · refine lv_iload hx hb dL_same_77 (lv_lk hl rfl) ?_
              refine lv_goto (tgt := 84) hx hb dL_same_79 (by decide) ?_
              refine iv_eq (uZ st (i + 1)) (show (left st (st (6 + 5 * i + 3))) = sooner (uZ st i) (left st (st (6 + 5 * i + 3))) from by rw [hsn, if_pos (by omega)]) ?_
              exact CUT84  _ _ hS (lv_sub hl [0, 1, 2, 3, 4, 5, 6, 7, 8, 9, 10, 11] rfl)
            · refine lv_iload hx hb dL_same_70 (lv_lk hl rfl) ?_
              refine lv_iload hx hb dL_same_72 (lv_lk hl rfl) ?_
              refine iv_icmp_ge (tgt := 82) hx hb dL_same_74 (by decide) (by omega) (by omega) (fun c_74 => ?_) (fun c_74 => ?_)
              · refine lv_iload hx hb dL_same_82 (lv_lk hl rfl) ?_
                refine iv_eq (uZ st (i + 1)) (show uZ st i = sooner (uZ st i) (left st (st (6 + 5 * i + 3))) from by rw [hsn, if_neg (by omega)]) ?_
                exact CUT84  _ _ hS (lv_sub hl [0, 1, 2, 3, 4, 5, 6, 7, 8, 9, 10, 11] rfl)
              · refine lv_iload hx hb dL_same_77 (lv_lk hl rfl) ?_
                refine lv_goto (tgt := 84) hx hb dL_same_79 (by decide) ?_
                refine iv_eq (uZ st (i + 1)) (show (left st (st (6 + 5 * i + 3))) = sooner (uZ st i) (left st (st (6 + 5 * i + 3))) from by rw [hsn, if_pos (by omega)]) ?_
                exact CUT84  _ _ hS (lv_sub hl [0, 1, 2, 3, 4, 5, 6, 7, 8, 9, 10, 11] rfl)
        refine lv_iload hx hb dL_same_45 (lv_lk hl rfl) ?_
        refine lv_iload hx hb dL_same_47 (lv_lk hl rfl) ?_
        refine iv_if_le (tgt := 56) hx hb dL_same_49 (by decide) (by omega) (fun c_49 => ?_) (fun c_49 => ?_)
        · refine iv_iconst hx hb dL_same_56 ?_
          refine iv_eq (bz st i) (by unfold bz; rw [if_neg (by omega)]) ?_
          exact CUT57  _ _ hS (lv_sub hl [1, 2, 3, 4, 5, 6, 7, 8, 9, 10, 11, 0] rfl)
        · refine iv_iconst hx hb dL_same_52 ?_
          refine lv_goto (tgt := 57) hx hb dL_same_53 (by decide) ?_
          refine iv_eq (bz st i) (by unfold bz; rw [if_pos (by omega)]) ?_
          exact CUT57  _ _ hS (lv_sub hl [1, 2, 3, 4, 5, 6, 7, 8, 9, 10, 11, 0] rfl)
      refine lv_aload_n hx hb dL_same_16 rfl (lv_lk hl rfl) ?_
      refine iv_iconst hx hb dL_same_17 ?_
      refine lv_iload hx hb dL_same_18 (lv_lk hl rfl) ?_
      refine iv_imul hx hb dL_same_20 ?_
      refine iv_iconst hx hb dL_same_21 ?_
      refine iv_iadd hx hb dL_same_22 ?_
      refine iv_iald hx hb hK hP 1 rfl (5 * i + 3) (by omega) (by omega) dL_same_23 ?_
      refine iv_if_ne (tgt := 31) hx hb dL_same_24 (by decide) (by omega) (fun c_24 => ?_) (fun c_24 => ?_)
      · refine lv_aload_n hx hb dL_same_31 rfl (lv_lk hl rfl) ?_
        refine iv_iconst hx hb dL_same_32 ?_
        refine lv_iload hx hb dL_same_33 (lv_lk hl rfl) ?_
        refine iv_imul hx hb dL_same_35 ?_
        refine iv_iconst hx hb dL_same_36 ?_
        refine iv_iadd hx hb dL_same_37 ?_
        refine iv_iald hx hb hK hP 1 rfl (5 * i + 3) (by omega) (by omega) dL_same_38 ?_
        refine lv_aload_n hx hb dL_same_39 rfl (lv_lk hl rfl) ?_
        refine iv_iconst hx hb dL_same_40 ?_
        refine iv_iald hx hb hK hP 0 rfl (0) (by omega) (by omega) dL_same_41 ?_
        refine iv_isub hx hb dL_same_42 ?_
        refine iv_eq (left st (st (6 + 5 * i + 3))) (by omega) ?_
        exact CUT43  _ _ hS (lv_sub hl [0, 1, 2, 3, 4, 5, 6, 7, 8, 9, 10] rfl)
      · refine iv_iconst hx hb dL_same_27 ?_
        refine lv_goto (tgt := 43) hx hb dL_same_28 (by decide) ?_
        refine iv_eq (left st (st (6 + 5 * i + 3))) (by omega) ?_
        exact CUT43  _ _ hS (lv_sub hl [0, 1, 2, 3, 4, 5, 6, 7, 8, 9, 10] rfl)
  exact LOOP9 6 0 (by omega) _ _ hS (lv_sub hl [2, 1, 0, 3, 4, 5, 6, 7, 8, 9, 10] rfl)
