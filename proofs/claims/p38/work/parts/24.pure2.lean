/-! the views of what is remembered, chains of zones, masks; the first rows (wb_, pf_) are of kit/laws/BITS -/
theorem wb_tb (n : Nat) : (lN n).toBitVec = BitVec.ofNat 64 n := rfl
theorem wb_inj {a b : Int64} (h : a.toBitVec = b.toBitVec) : a = b := Int64.toBitVec_inj.mp h
theorem wb_tn {n : Nat} (h : n < 2 ^ 64) : (lN n).toBitVec.toNat = n := by rw [wb_tb, BitVec.toNat_ofNat, Nat.mod_eq_of_lt h]
theorem wb_of (x : Int64) : ∃ n, n < 2 ^ 64 ∧ x = lN n := ⟨x.toBitVec.toNat, x.toBitVec.isLt, wb_inj (by rw [wb_tb]; simp)⟩
theorem wb_of32 (x : Int32) : ∃ n, n < 2 ^ 32 ∧ x = nI n := ⟨x.toBitVec.toNat, x.toBitVec.isLt, Int32.toBitVec_inj.mp (by show _ = BitVec.ofNat 32 _; simp)⟩
theorem wb_c : ∀ k, k < 64 → ((nI k).toInt64 &&& 63) = lN k := by decide +kernel
theorem wb_cu : ∀ k, k < 64 → ((nI k).toInt64.toUInt64 &&& Int64.toUInt64 63) = UInt64.ofNat k := by decide +kernel
theorem wb_sm : ∀ k, k < 64 → (BitVec.ofNat 64 k).smod 64 = BitVec.ofNat 64 k := by decide +kernel
theorem wb_pw {a b : Nat} (h : a ≤ b) : 2 ^ b = 2 ^ a * 2 ^ (b - a) := by rw [← Nat.pow_add]; congr 1; omega
theorem wb_lt2 {a b : Nat} (h : a < b) : 2 ^ a < 2 ^ b := Nat.pow_lt_pow_right (by decide) h
theorem wb_mod (n : Nat) : lN n = lN (n % 2 ^ 64) := wb_inj (by rw [wb_tb, wb_tb]; apply BitVec.eq_of_toNat_eq; rw [BitVec.toNat_ofNat, BitVec.toNat_ofNat, Nat.mod_mod])
theorem wb_shr {n k : Nat} (hn : n < 2 ^ 64) (hk : k < 64) : ((lN n).toUInt64 >>> ((nI k).toInt64.toUInt64 &&& Int64.toUInt64 63)).toInt64 = lN (n / 2 ^ k) := by
  rw [wb_cu k hk]
  apply wb_inj
  apply BitVec.eq_of_toNat_eq
  show ((lN n).toUInt64 >>> UInt64.ofNat k).toNat = (BitVec.ofNat 64 _).toNat
  have h1 : (UInt64.ofNat k).toNat = k := by
    show (BitVec.ofNat 64 k).toNat = k
    rw [BitVec.toNat_ofNat, Nat.mod_eq_of_lt (by omega)]
  have h2 : (lN n).toUInt64.toNat = n := wb_tn hn
  rw [UInt64.toNat_shiftRight, h1, h2, Nat.mod_eq_of_lt hk, Nat.shiftRight_eq_div_pow, BitVec.toNat_ofNat, Nat.mod_eq_of_lt (Nat.lt_of_le_of_lt (Nat.div_le_self _ _) hn)]
theorem wb_shl (n : Nat) {k : Nat} (hk : k < 64) : lN n <<< ((nI k).toInt64 &&& 63) = lN (n * 2 ^ k) := by
  rw [wb_c k hk]
  apply wb_inj
  rw [Int64.toBitVec_shiftLeft, wb_tb, wb_tb, wb_tb, wb_sm k hk]
  apply BitVec.eq_of_toNat_eq
  rw [BitVec.shiftLeft_eq', BitVec.toNat_shiftLeft, BitVec.toNat_ofNat, BitVec.toNat_ofNat, BitVec.toNat_ofNat, Nat.mod_eq_of_lt (show k < 2 ^ 64 by omega), Nat.shiftLeft_eq, Nat.mul_mod, Nat.mod_mod, ← Nat.mul_mod]
theorem wb_and {a b : Nat} (ha : a < 2 ^ 64) (hb : b < 2 ^ 64) : lN a &&& lN b = lN (a &&& b) := by
  apply wb_inj
  rw [Int64.toBitVec_and, wb_tb, wb_tb, wb_tb]
  apply BitVec.eq_of_toNat_eq
  rw [BitVec.toNat_and, BitVec.toNat_ofNat, BitVec.toNat_ofNat, BitVec.toNat_ofNat, Nat.mod_eq_of_lt ha, Nat.mod_eq_of_lt hb, Nat.mod_eq_of_lt (Nat.and_lt_two_pow _ hb)]
theorem wb_or {a b : Nat} (ha : a < 2 ^ 64) (hb : b < 2 ^ 64) : lN a ||| lN b = lN (a ||| b) := by
  apply wb_inj
  rw [Int64.toBitVec_or, wb_tb, wb_tb, wb_tb]
  apply BitVec.eq_of_toNat_eq
  rw [BitVec.toNat_or, BitVec.toNat_ofNat, BitVec.toNat_ofNat, BitVec.toNat_ofNat, Nat.mod_eq_of_lt ha, Nat.mod_eq_of_lt hb, Nat.mod_eq_of_lt (Nat.or_lt_two_pow ha hb)]
theorem wb_mask {n k : Nat} (hn : n < 2 ^ 64) (hk : k < 64) : lN n &&& lN (2 ^ k - 1) = lN (n % 2 ^ k) := by
  rw [wb_and hn (by have := wb_lt2 hk; omega), Nat.and_two_pow_sub_one_eq_mod]
theorem pf_lI {a : Nat} (h : a < 2 ^ 63) : (lN a).toInt = (a : Int) := lg_ofNat_toInt h
theorem pf_shr {a d : Nat} {D : Int64} (hD : (D.toBitVec.smod 64).toNat = d) (h : a < 2 ^ 62) : lN a >>> D = lN (a / 2 ^ d) := by
  have hd : a / 2 ^ d ≤ a := Nat.div_le_self _ _
  apply Int64.toInt_inj.mp
  have e : (lN a >>> D).toInt = (lN a).toInt >>> d := by
    rw [← hD]
    exact BitVec.toInt_sshiftRight ..
  rw [e, Int.shiftRight_eq_div_pow, pf_lI (by omega), pf_lI (by omega)]
  rfl
def kV (s : S) (r : Nat) : Int := if s (36 + 6 * r + 3) = 0 then (if s (36 + 6 * r) = 0 then 3 else s (36 + 6 * r)) else s (36 + 6 * r + 3)
def vV (s : S) (r : Nat) : Int := if s (36 + 6 * r + 3) = 0 then s (36 + 6 * r + 1) else s (36 + 6 * r + 4)
def resV : Nat → S → Nat → Int
  | 0, _, _ => -2
  | n + 1, s, r => if kV s r = 2 then resV n s (vV s r).toNat else if kV s r = 1 then vV s r else -1
theorem come_ge {T : Int} {n : Nat} {st : S} (h : IB T st) {z j : Nat} (hz : z < 6) (hj : 36 ≤ j) : come n st z j = st j := (come_all n h hz).2 j (by omega) (by omega) (fun p hp => by omega)
theorem base_ge {T : Int} {st : S} (h : IB T st) {z j : Nat} (hz : z < 6) (hj : 36 ≤ j) : costs (come 6 st z) z j = st j := by rw [costs_ne (by omega) (by omega), come_ge h hz hj]
theorem asks_k {T : Int} {st : S} (h : IB T st) {r q : Nat} (hr : r < 36) (hq : q < 36) : asks st r (36 + 6 * q) = st (36 + 6 * q) ∧ asks st r (36 + 6 * q + 1) = st (36 + 6 * q + 1) ∧ asks st r (36 + 6 * q + 2) = st (36 + 6 * q + 2) ∧
    asks st r (36 + 6 * q + 3) = (if q = r then (if st (36 + 6 * r) = 0 then 3 else st (36 + 6 * r)) else st (36 + 6 * q + 3)) ∧ asks st r (36 + 6 * q + 4) = (if q = r then st (36 + 6 * r + 1) else st (36 + 6 * q + 4)) := by
  have hz : r / 6 < 6 := by omega
  have hB : ∀ j, 36 ≤ j → costs (come 6 st (r / 6)) (r / 6) j = st j := fun j hj => base_ge h hz hj
  unfold asks
  rw [hold_eq _ _ _ hr hz]
  generalize costs (come 6 st (r / 6)) (r / 6) = B at hB
  rw [hB (36 + 6 * r) (by omega), hB (36 + 6 * r + 1) (by omega)]
  have n4 : ∀ (f : S) (v : Int) (j : Nat), 36 ≤ j → up f 4 v j = f j := fun f v j hj => up_ne _ _ (by omega)
  refine ⟨?_, ?_, ?_, ?_, ?_⟩
  · rw [n4 _ _ _ (by omega), up_ne _ _ (by omega), up_ne _ _ (by omega), up_ne _ _ (by omega), hB _ (by omega)]
  · rw [n4 _ _ _ (by omega), up_ne _ _ (by omega), up_ne _ _ (by omega), up_ne _ _ (by omega), hB _ (by omega)]
  · rw [n4 _ _ _ (by omega), up_ne _ _ (by omega), up_ne _ _ (by omega), up_ne _ _ (by omega), hB _ (by omega)]
  · by_cases e : q = r
    · subst e; rw [if_pos rfl, n4 _ _ _ (by omega), up_ne _ _ (by omega), up_ne _ _ (by omega), up_eq]
    · rw [if_neg e, n4 _ _ _ (by omega), up_ne _ _ (by omega), up_ne _ _ (by omega), up_ne _ _ (by omega), hB _ (by omega)]
  · by_cases e : q = r
    · subst e; rw [if_pos rfl, n4 _ _ _ (by omega), up_ne _ _ (by omega), up_eq]
    · rw [if_neg e, n4 _ _ _ (by omega), up_ne _ _ (by omega), up_ne _ _ (by omega), up_ne _ _ (by omega), hB _ (by omega)]
theorem take_pos {st : S} {r : Nat} (h : st (36 + 6 * r + 3) = 0) : take st r = asks st r := by unfold take; rw [if_pos h]
theorem take_neg {st : S} {r : Nat} (h : ¬ st (36 + 6 * r + 3) = 0) : take st r = up st 3 (st 3 + 1) := by unfold take; rw [if_neg h]
theorem take_view {T : Int} {st : S} (h : IB T st) {r q : Nat} (hr : r < 36) (hq : q < 36) : kV (take st r) q = kV st q ∧ vV (take st r) q = vV st q := by
  by_cases h0 : st (36 + 6 * r + 3) = 0
  · rw [take_pos h0]
    obtain ⟨e0, e1, -, e3, e4⟩ := asks_k h hr hq
    unfold kV vV
    rw [e0, e1, e3, e4]
    by_cases e : q = r
    · subst e
      rw [if_pos rfl, if_pos rfl, if_pos h0, if_pos h0]
      have hk : ¬ (if st (36 + 6 * q) = 0 then (3 : Int) else st (36 + 6 * q)) = 0 := by split <;> omega
      rw [if_neg hk, if_neg hk]
      exact ⟨rfl, rfl⟩
    · rw [if_neg e, if_neg e]
      exact ⟨rfl, rfl⟩
  · rw [take_neg h0]
    unfold kV vV
    rw [up_ne _ _ (by omega), up_ne _ _ (by omega), up_ne _ _ (by omega), up_ne _ _ (by omega)]
    exact ⟨rfl, rfl⟩
theorem take_own {T : Int} {st : S} (h : IB T st) {r : Nat} (hr : r < 36) : take st r (36 + 6 * r + 3) = kV st r ∧ take st r (36 + 6 * r + 4) = vV st r := by
  by_cases h0 : st (36 + 6 * r + 3) = 0
  · rw [take_pos h0]
    obtain ⟨-, -, -, e3, e4⟩ := asks_k h hr hr
    unfold kV vV
    rw [e3, e4, if_pos rfl, if_pos rfl, if_pos h0, if_pos h0]
    exact ⟨rfl, rfl⟩
  · rw [take_neg h0]
    unfold kV vV
    rw [if_neg h0, if_neg h0, up_ne _ _ (by omega), up_ne _ _ (by omega)]
    exact ⟨rfl, rfl⟩
theorem resV_congr {s s' : S} (hk : ∀ q, q < 36 → kV s q = kV s' q ∧ vV s q = vV s' q) (hb : ∀ q, q < 36 → kV s q = 2 → (vV s q).toNat < 36) : ∀ n r, r < 36 → resV n s r = resV n s' r
  | 0, _, _ => rfl
  | n + 1, r, hr => by
    unfold resV
    rw [← (hk r hr).1, ← (hk r hr).2]
    by_cases h2 : kV s r = 2
    · rw [if_pos h2, if_pos h2, resV_congr hk hb n _ (hb r hr h2)]
    · rw [if_neg h2, if_neg h2]
theorem view_next {T : Int} {st : S} (h : IB T st) {r : Nat} (hr : r < 36) (hk : kV st r = 2) : (vV st r).toNat < 36 := by
  unfold kV at hk
  unfold vV
  have h3 := (h.2.2.2 r hr).2
  have h1 := (h.2.2.2 r hr).1
  unfold triM at h3; unfold triT at h1
  by_cases h0 : st (36 + 6 * r + 3) = 0
  · rw [if_pos h0] at hk ⊢
    split at hk <;> omega
  · rw [if_neg h0] at hk ⊢
    omega
theorem solves_view {T : Int} : ∀ (n : Nat) {st : S} (_ : IB T st) (r : Nat), r < 36 → (solvesF n st r).2 = resV n st r
  | 0, _, _, _, _ => rfl
  | n + 1, st, h, r, hr => by
    obtain ⟨e3, e4⟩ := take_own h hr
    unfold solvesF resV
    rw [e3, e4]
    by_cases h2 : kV st r = 2
    · rw [if_pos h2, if_pos h2, solves_view n (IB_take h hr) _ (view_next h hr h2)]
      exact (resV_congr (fun q hq => ⟨(take_view h hr hq).1.symm, (take_view h hr hq).2.symm⟩) (fun q hq => view_next h hq) n _ (view_next h hr h2)).symm
    · rw [if_neg h2, if_neg h2]
/-- what the class's forecast tells -/
def resF : Nat → S → Int → Nat → Int
  | 0, _, _, _ => -2
  | n + 1, st, t, r => if st 0 + t < st (36 + 6 * r + 5) then (if st (36 + 6 * r + 3) = 2 then resF n st t (st (36 + 6 * r + 4)).toNat else (if st (36 + 6 * r + 3) = 0 then -1 else st (36 + 6 * r + 4)))
      else (if st (36 + 6 * r) = 2 then resF n st t (st (36 + 6 * r + 1)).toNat else st (36 + 6 * r + 1))
theorem passR_eq (st : S) (r : Nat) : passR st r = if st (36 + 6 * r + 3) ≠ 0 ∧ st (36 + 6 * r + 5) ≤ st 0 then forg st r else st := rfl
theorem passZ_eq (st : S) (z : Nat) : passZ st z = if 0 < st (6 + 5 * z + 3) ∧ st (6 + 5 * z + 3) ≤ st 0 then up (up st (6 + 5 * z + 3) 0) 5 (up st (6 + 5 * z + 3) 0 5 + 1) else st := rfl
theorem kV_p {s : S} {r : Nat} (h : s (36 + 6 * r + 3) = 0) : kV s r = (if s (36 + 6 * r) = 0 then 3 else s (36 + 6 * r)) ∧ vV s r = s (36 + 6 * r + 1) := by unfold kV vV; rw [if_pos h, if_pos h]; exact ⟨rfl, rfl⟩
theorem kV_n {s : S} {r : Nat} (h : ¬ s (36 + 6 * r + 3) = 0) : kV s r = s (36 + 6 * r + 3) ∧ vV s r = s (36 + 6 * r + 4) := by unfold kV vV; rw [if_neg h, if_neg h]; exact ⟨rfl, rfl⟩
theorem iterR {s : S} : ∀ n, n ≤ 36 → iter passR n s 0 = s 0 ∧ ∀ q, q < 36 → iter passR n s (36 + 6 * q) = s (36 + 6 * q) ∧ iter passR n s (36 + 6 * q + 1) = s (36 + 6 * q + 1) ∧
    (if q < n ∧ s (36 + 6 * q + 3) ≠ 0 ∧ s (36 + 6 * q + 5) ≤ s 0 then iter passR n s (36 + 6 * q + 3) = 0 else (iter passR n s (36 + 6 * q + 3) = s (36 + 6 * q + 3) ∧ iter passR n s (36 + 6 * q + 4) = s (36 + 6 * q + 4) ∧ iter passR n s (36 + 6 * q + 5) = s (36 + 6 * q + 5)))
  | 0, _ => ⟨rfl, fun q hq => ⟨rfl, rfl, by rw [if_neg (by omega)]; exact ⟨rfl, rfl, rfl⟩⟩⟩
  | n + 1, hn => by
    obtain ⟨i0, ih⟩ := iterR (s := s) n (by omega)
    have own := (ih n (by omega)).2.2
    rw [if_neg (by omega)] at own
    show passR (iter passR n s) n 0 = s 0 ∧ _
    have step : ∀ j, iter passR (n + 1) s j = passR (iter passR n s) n j := fun _ => rfl
    have pe := passR_eq (iter passR n s) n
    rw [own.1, own.2.2, i0] at pe
    rw [pe] at step ⊢
    by_cases c : s (36 + 6 * n + 3) ≠ 0 ∧ s (36 + 6 * n + 5) ≤ s 0
    · rw [if_pos c] at step ⊢
      have f : ∀ j, j ≠ 5 → j ≠ 36 + 6 * n + 3 → j ≠ 36 + 6 * n + 4 → j ≠ 36 + 6 * n + 5 → forg (iter passR n s) n j = iter passR n s j := fun j a1 a2 a3 a4 => by
        unfold forg forg3; rw [up_ne _ _ a1, up_ne _ _ a4, up_ne _ _ a3, up_ne _ _ a2]
      refine ⟨(f 0 (by omega) (by omega) (by omega) (by omega)).trans i0, fun q hq => ?_⟩
      obtain ⟨q0, q1, q3⟩ := ih q hq
      refine ⟨by rw [step, f _ (by omega) (by omega) (by omega) (by omega)]; exact q0, by rw [step, f _ (by omega) (by omega) (by omega) (by omega)]; exact q1, ?_⟩
      by_cases e : q = n
      · subst e
        rw [if_pos ⟨by omega, c⟩, step]
        unfold forg forg3
        rw [up_ne _ _ (by omega), up_ne _ _ (by omega), up_ne _ _ (by omega), up_eq]
      · rw [step, step, step, f _ (by omega) (by omega) (by omega) (by omega), f _ (by omega) (by omega) (by omega) (by omega), f _ (by omega) (by omega) (by omega) (by omega)]
        by_cases d : q < n ∧ s (36 + 6 * q + 3) ≠ 0 ∧ s (36 + 6 * q + 5) ≤ s 0
        · rw [if_pos d] at q3; rw [if_pos (by omega)]; exact q3
        · rw [if_neg d] at q3; rw [if_neg (by omega)]; exact q3
    · rw [if_neg c] at step ⊢
      refine ⟨i0, fun q hq => ?_⟩
      obtain ⟨q0, q1, q3⟩ := ih q hq
      rw [step, step, step, step, step]
      refine ⟨q0, q1, ?_⟩
      by_cases d : q < n ∧ s (36 + 6 * q + 3) ≠ 0 ∧ s (36 + 6 * q + 5) ≤ s 0
      · rw [if_pos d] at q3; rw [if_pos (by omega)]; exact q3
      · rw [if_neg d] at q3
        rw [if_neg (by
          rintro ⟨a1, a2⟩
          by_cases e : q = n
          · subst e; exact c a2
          · exact d ⟨by omega, a2⟩)]
        exact q3
theorem iterZ_ge {s : S} : ∀ n, n ≤ 6 → ∀ j, (j = 0 ∨ 36 ≤ j) → iter passZ n s j = s j
  | 0, _, _, _ => rfl
  | n + 1, hn, j, hj => by
    show passZ (iter passZ n s) n j = s j
    rw [passZ_eq]
    split
    · rw [up_ne _ _ (by omega), up_ne _ _ (by omega), iterZ_ge n (by omega) j hj]
    · exact iterZ_ge n (by omega) j hj
theorem passes_r {st : S} {t : Int} {q : Nat} (hq : q < 36) : passes st t (36 + 6 * q) = st (36 + 6 * q) ∧ passes st t (36 + 6 * q + 1) = st (36 + 6 * q + 1) ∧
    (if st (36 + 6 * q + 3) ≠ 0 ∧ st (36 + 6 * q + 5) ≤ st 0 + t then passes st t (36 + 6 * q + 3) = 0 else (passes st t (36 + 6 * q + 3) = st (36 + 6 * q + 3) ∧ passes st t (36 + 6 * q + 4) = st (36 + 6 * q + 4) ∧ passes st t (36 + 6 * q + 5) = st (36 + 6 * q + 5))) := by
  obtain ⟨-, h⟩ := iterR (s := iter passZ 6 (up st 0 (st 0 + t))) 36 (Nat.le_refl _)
  obtain ⟨h0, h1, h3⟩ := h q hq
  have e : ∀ j, 36 ≤ j → iter passZ 6 (up st 0 (st 0 + t)) j = st j := fun j hj => by rw [iterZ_ge 6 (Nat.le_refl _) j (Or.inr hj), up_ne _ _ (by omega)]
  have e0 : iter passZ 6 (up st 0 (st 0 + t)) 0 = st 0 + t := by rw [iterZ_ge 6 (Nat.le_refl _) 0 (Or.inl rfl), up_eq]
  rw [e _ (by omega)] at h0 h1
  rw [e (36 + 6 * q + 3) (by omega), e (36 + 6 * q + 4) (by omega), e (36 + 6 * q + 5) (by omega), e0] at h3
  refine ⟨h0, h1, ?_⟩
  by_cases c : st (36 + 6 * q + 3) ≠ 0 ∧ st (36 + 6 * q + 5) ≤ st 0 + t
  · rw [if_pos ⟨hq, c⟩] at h3; rw [if_pos c]; exact h3
  · rw [if_neg (fun d => c d.2)] at h3; rw [if_neg c]; exact h3
theorem res_view {T : Int} {st : S} (h : IB T st) {t : Int} (ht : 0 ≤ t) : ∀ n r, r < 36 → resF n st t r = resV n (passes st t) r
  | 0, _, _ => rfl
  | n + 1, r, hr => by
    obtain ⟨h0, h1, h3⟩ := passes_r (st := st) (t := t) hr
    have hm := (h.2.2.2 r hr).2
    have hk := (h.2.2.2 r hr).1
    have ht0 := h.1
    unfold triM at hm; unfold triT at hk
    unfold resF resV
    by_cases c : st 0 + t < st (36 + 6 * r + 5)
    · rw [if_pos c]
      rw [if_neg (by omega)] at h3
      obtain ⟨k1, v1⟩ := kV_n (s := passes st t) (r := r) (by rw [h3.1]; omega)
      rw [k1, v1, h3.1, h3.2.1]
      by_cases d : st (36 + 6 * r + 3) = 2
      · rw [if_pos d, if_pos d, res_view h ht n _ (by omega)]
      · rw [if_neg d, if_neg d, if_neg (show ¬ st (36 + 6 * r + 3) = 0 by omega)]
        split <;> omega
    · rw [if_neg c]
      have hz : passes st t (36 + 6 * r + 3) = 0 := by
        by_cases e : st (36 + 6 * r + 3) = 0
        · rw [if_neg (by omega)] at h3; rw [h3.1, e]
        · rw [if_pos ⟨e, by omega⟩] at h3; exact h3
      obtain ⟨k1, v1⟩ := kV_p hz
      rw [k1, v1, h0, h1]
      by_cases d : st (36 + 6 * r) = 2
      · rw [if_pos d, if_neg (show ¬ st (36 + 6 * r) = 0 by omega), if_pos d, res_view h ht n _ (by omega)]
      · rw [if_neg d]
        by_cases d0 : st (36 + 6 * r) = 0
        · rw [if_pos d0, if_neg (by decide), if_neg (by decide)]; omega
        · rw [if_neg d0, if_neg d, if_pos (show st (36 + 6 * r) = 1 by omega)]
theorem would_res {T : Int} {st : S} (h : IB T st) {t : Int} (ht : 0 ≤ t ∧ t ≤ 100 ∧ T ≤ 99900) {r : Nat} (hr : r < 36) : wouldIn st r t = resF 7 st t r := by
  unfold wouldIn
  rw [solves_view 7 (IB_passes h t ht.1 (T + 100) (by omega)) r hr, res_view h ht.1 7 r hr]
theorem res_zero {T : Int} {st : S} (h : IB T st) (hi : IT st) : ∀ n r, r < 36 → resF n st 0 r = resV n st r
  | 0, _, _ => rfl
  | n + 1, r, hr => by
    have hm := (h.2.2.2 r hr).2
    have hk := (h.2.2.2 r hr).1
    have ht := hi.2 r hr
    have h0 := h.1
    unfold triM at hm; unfold triT at hk
    unfold resF resV
    by_cases c : st (36 + 6 * r + 3) = 0
    · obtain ⟨k1, v1⟩ := kV_p c
      rw [if_neg (show ¬ st 0 + 0 < st (36 + 6 * r + 5) by omega), k1, v1]
      by_cases d : st (36 + 6 * r) = 2
      · rw [if_pos d, if_neg (show ¬ st (36 + 6 * r) = 0 by omega), if_pos d, res_zero h hi n _ (by omega)]
      · rw [if_neg d]
        by_cases d0 : st (36 + 6 * r) = 0
        · rw [if_pos d0, if_neg (by decide), if_neg (by decide)]; omega
        · rw [if_neg d0, if_neg d, if_pos (show st (36 + 6 * r) = 1 by omega)]
    · obtain ⟨k1, v1⟩ := kV_n c
      rw [if_pos (show st 0 + 0 < st (36 + 6 * r + 5) by omega), k1, v1]
      by_cases d : st (36 + 6 * r + 3) = 2
      · rw [if_pos d, if_pos d, res_zero h hi n _ (by omega)]
      · rw [if_neg d, if_neg d, if_neg c]
        split <;> omega
theorem would_zero {T : Int} {st : S} (h : IB T st) (hi : IT st) {r : Nat} (hr : r < 36) : would st r = resF 7 st 0 r := by
  unfold would; rw [solves_view 7 h r hr, res_zero h hi 7 r hr]
theorem res_truth {T : Int} {st : S} (h : IB T st) (hi : IT st) : ∀ n r, r < 36 → resF n st 99 r = truthF n st r
  | 0, _, _ => rfl
  | n + 1, r, hr => by
    have hm := (h.2.2.2 r hr).2
    have hk := (h.2.2.2 r hr).1
    have ht := hi.2 r hr
    have h0 := h.1
    unfold triM at hm; unfold triT at hk
    unfold resF truthF
    rw [if_neg (show ¬ st 0 + 99 < st (36 + 6 * r + 5) by omega)]
    by_cases d : st (36 + 6 * r) = 2
    · rw [if_pos d, if_pos d, res_truth h hi n _ (by omega)]
    · rw [if_neg d, if_neg d]
theorem would_99 {T : Int} {st : S} (h : IB T st) (hi : IT st) (hT : T ≤ 99900) {r : Nat} (hr : r < 36) : wouldIn st r 99 = truthF 7 st r := by
  rw [would_res h (by omega) hr, res_truth h hi 7 r hr]
