/-! the law: its test, its switch, its loop; written by cls23.py -/
theorem law_test {p : Program} {l : Launch} {e : Jvm.Env} {s : State} {m : MethodId} {args : Array Value} {below : List Frame} {meth : Method} {c : Code} {H : Heap} {locs : List Loc} {cells slots : Nat} {Q : State → Prop} {ls : Array Slot} {b L : Nat} {xs : Nat → Int32} {E : Env3} {γ α ρ : Nat → Nat} {o : Nat} {A : Nat → Prop} (hC : LawC p l s m args meth c b L xs E γ α ρ o A) (i : Nat) (hi : i ≤ L + 4) (hl : lv_has ls 9 (lvL b γ ρ o i)) (hS : va_S (fun q => s.heap.size ≤ q) s.heap H locs)
    (kex : L < i + 4 → W p l e room_1 s m args below meth c H locs cells slots Q (F0 m 1781 ls [])) (kin : i + 4 ≤ L → W p l e room_1 s m args below meth c H locs cells slots Q (F0 m 32 ls [])) : W p l e room_1 s m args below meth c H locs cells slots Q (F0 m 23 ls []) := by
  obtain ⟨⟨hx, hb, hr, hml, hown, hlocks, hts⟩, ⟨hX, hbl, hL8⟩, -⟩ := id hC
  refine lv_iload hx hb dL_law_23 (lv_lk hl rfl) ?_
  refine lv_aload_n hx hb dL_law_25 rfl (lv_lk hl rfl) ?_
  refine va_slen hx hb hX hbl (Nat.not_le.mpr hbl) hS dL_law_26 ?_
  rw [I_ofNat]
  refine iv_iconst hx hb dL_law_27 ?_
  refine iv_isub hx hb dL_law_28 ?_
  exact iv_icmp_gt (tgt := 1781) hx hb dL_law_29 (by decide) (by omega) (by omega) (fun h9 => kex (by omega)) (fun h9 => kin (by omega))
def startP : List Nat := [192, 260, 340, 420, 500, 556, 612, 668, 724, 737, 793, 849, 905, 961, 1017, 1073, 1129, 1185, 1198, 1211, 1224, 1287, 1300, 1313, 1326, 1382, 1423, 1479, 1535, 1591, 1647, 1660, 1673, 1717, 1761]
set_option maxRecDepth 100000 in
set_option maxHeartbeats 1000000 in
theorem law_switch {p : Program} {l : Launch} {e : Jvm.Env} {s : State} {m : MethodId} {args : Array Value} {below : List Frame} {meth : Method} {c : Code} {H : Heap} {locs : List Loc} {cells slots : Nat} {Q : State → Prop} {ls : Array Slot} {b L : Nat} {xs : Nat → Int32} {E : Env3} {γ α ρ : Nat → Nat} {o : Nat} {A : Nat → Prop} (hC : LawC p l s m args meth c b L xs E γ α ρ o A) (i : Nat) (hi4 : i + 4 ≤ L) (hl : lv_has ls 9 (lvL b γ ρ o i)) (hS : va_S (fun q => s.heap.size ≤ q) s.heap H locs)
    (kd : W p l e room_1 s m args below meth c H locs cells slots Q (F0 m 1775 ls [])) (k : ∀ (j pc : Nat), startP[j]? = some pc → W p l e room_1 s m args below meth c H locs cells slots Q (F0 m pc ls [])) : W p l e room_1 s m args below meth c H locs cells slots Q (F0 m 32 ls []) := by
  obtain ⟨⟨hx, hb, hr, hml, hown, hlocks, hts⟩, ⟨hX, hbl, hL8⟩, -⟩ := id hC
  refine lv_aload_n hx hb dL_law_32 rfl (lv_lk hl rfl) ?_
  refine lv_iload hx hb dL_law_33 (lv_lk hl rfl) ?_
  refine L_ld hC hS (by omega) dL_law_35 ?_
  refine iv_bipush hx hb dL_law_36 (by decide +kernel) ?_
  refine lv_iand hx hb dL_law_38 ?_
  generalize xs i &&& I 63 = x
  by_cases h0 : x.toInt < 0 ∨ 34 < x.toInt
  · exact lv_tableOut (tgt := 1775) hx hb dL_law_39 h0 (by decide) kd
  · have hj : x.toInt = 0 ∨ x.toInt = 1 ∨ x.toInt = 2 ∨ x.toInt = 3 ∨ x.toInt = 4 ∨ x.toInt = 5 ∨ x.toInt = 6 ∨ x.toInt = 7 ∨ x.toInt = 8 ∨ x.toInt = 9 ∨ x.toInt = 10 ∨ x.toInt = 11 ∨ x.toInt = 12 ∨ x.toInt = 13 ∨ x.toInt = 14 ∨ x.toInt = 15 ∨ x.toInt = 16 ∨ x.toInt = 17 ∨ x.toInt = 18 ∨ x.toInt = 19 ∨ x.toInt = 20 ∨ x.toInt = 21 ∨ x.toInt = 22 ∨ x.toInt = 23 ∨ x.toInt = 24 ∨ x.toInt = 25 ∨ x.toInt = 26 ∨ x.toInt = 27 ∨ x.toInt = 28 ∨ x.toInt = 29 ∨ x.toInt = 30 ∨ x.toInt = 31 ∨ x.toInt = 32 ∨ x.toInt = 33 ∨ x.toInt = 34 := by omega
    rcases hj with h1 | h1 | h1 | h1 | h1 | h1 | h1 | h1 | h1 | h1 | h1 | h1 | h1 | h1 | h1 | h1 | h1 | h1 | h1 | h1 | h1 | h1 | h1 | h1 | h1 | h1 | h1 | h1 | h1 | h1 | h1 | h1 | h1 | h1 | h1
    · exact lv_tableIn (off := 153) (tgt := 192) hx hb dL_law_39 (by omega) (by omega) (by rw [h1]; rfl) (by decide) (k 0 _ rfl)
    · exact lv_tableIn (off := 221) (tgt := 260) hx hb dL_law_39 (by omega) (by omega) (by rw [h1]; rfl) (by decide) (k 1 _ rfl)
    · exact lv_tableIn (off := 301) (tgt := 340) hx hb dL_law_39 (by omega) (by omega) (by rw [h1]; rfl) (by decide) (k 2 _ rfl)
    · exact lv_tableIn (off := 381) (tgt := 420) hx hb dL_law_39 (by omega) (by omega) (by rw [h1]; rfl) (by decide) (k 3 _ rfl)
    · exact lv_tableIn (off := 461) (tgt := 500) hx hb dL_law_39 (by omega) (by omega) (by rw [h1]; rfl) (by decide) (k 4 _ rfl)
    · exact lv_tableIn (off := 517) (tgt := 556) hx hb dL_law_39 (by omega) (by omega) (by rw [h1]; rfl) (by decide) (k 5 _ rfl)
    · exact lv_tableIn (off := 573) (tgt := 612) hx hb dL_law_39 (by omega) (by omega) (by rw [h1]; rfl) (by decide) (k 6 _ rfl)
    · exact lv_tableIn (off := 629) (tgt := 668) hx hb dL_law_39 (by omega) (by omega) (by rw [h1]; rfl) (by decide) (k 7 _ rfl)
    · exact lv_tableIn (off := 685) (tgt := 724) hx hb dL_law_39 (by omega) (by omega) (by rw [h1]; rfl) (by decide) (k 8 _ rfl)
    · exact lv_tableIn (off := 698) (tgt := 737) hx hb dL_law_39 (by omega) (by omega) (by rw [h1]; rfl) (by decide) (k 9 _ rfl)
    · exact lv_tableIn (off := 754) (tgt := 793) hx hb dL_law_39 (by omega) (by omega) (by rw [h1]; rfl) (by decide) (k 10 _ rfl)
    · exact lv_tableIn (off := 810) (tgt := 849) hx hb dL_law_39 (by omega) (by omega) (by rw [h1]; rfl) (by decide) (k 11 _ rfl)
    · exact lv_tableIn (off := 866) (tgt := 905) hx hb dL_law_39 (by omega) (by omega) (by rw [h1]; rfl) (by decide) (k 12 _ rfl)
    · exact lv_tableIn (off := 922) (tgt := 961) hx hb dL_law_39 (by omega) (by omega) (by rw [h1]; rfl) (by decide) (k 13 _ rfl)
    · exact lv_tableIn (off := 978) (tgt := 1017) hx hb dL_law_39 (by omega) (by omega) (by rw [h1]; rfl) (by decide) (k 14 _ rfl)
    · exact lv_tableIn (off := 1034) (tgt := 1073) hx hb dL_law_39 (by omega) (by omega) (by rw [h1]; rfl) (by decide) (k 15 _ rfl)
    · exact lv_tableIn (off := 1090) (tgt := 1129) hx hb dL_law_39 (by omega) (by omega) (by rw [h1]; rfl) (by decide) (k 16 _ rfl)
    · exact lv_tableIn (off := 1146) (tgt := 1185) hx hb dL_law_39 (by omega) (by omega) (by rw [h1]; rfl) (by decide) (k 17 _ rfl)
    · exact lv_tableIn (off := 1159) (tgt := 1198) hx hb dL_law_39 (by omega) (by omega) (by rw [h1]; rfl) (by decide) (k 18 _ rfl)
    · exact lv_tableIn (off := 1172) (tgt := 1211) hx hb dL_law_39 (by omega) (by omega) (by rw [h1]; rfl) (by decide) (k 19 _ rfl)
    · exact lv_tableIn (off := 1185) (tgt := 1224) hx hb dL_law_39 (by omega) (by omega) (by rw [h1]; rfl) (by decide) (k 20 _ rfl)
    · exact lv_tableIn (off := 1248) (tgt := 1287) hx hb dL_law_39 (by omega) (by omega) (by rw [h1]; rfl) (by decide) (k 21 _ rfl)
    · exact lv_tableIn (off := 1261) (tgt := 1300) hx hb dL_law_39 (by omega) (by omega) (by rw [h1]; rfl) (by decide) (k 22 _ rfl)
    · exact lv_tableIn (off := 1274) (tgt := 1313) hx hb dL_law_39 (by omega) (by omega) (by rw [h1]; rfl) (by decide) (k 23 _ rfl)
    · exact lv_tableIn (off := 1287) (tgt := 1326) hx hb dL_law_39 (by omega) (by omega) (by rw [h1]; rfl) (by decide) (k 24 _ rfl)
    · exact lv_tableIn (off := 1343) (tgt := 1382) hx hb dL_law_39 (by omega) (by omega) (by rw [h1]; rfl) (by decide) (k 25 _ rfl)
    · exact lv_tableIn (off := 1384) (tgt := 1423) hx hb dL_law_39 (by omega) (by omega) (by rw [h1]; rfl) (by decide) (k 26 _ rfl)
    · exact lv_tableIn (off := 1440) (tgt := 1479) hx hb dL_law_39 (by omega) (by omega) (by rw [h1]; rfl) (by decide) (k 27 _ rfl)
    · exact lv_tableIn (off := 1496) (tgt := 1535) hx hb dL_law_39 (by omega) (by omega) (by rw [h1]; rfl) (by decide) (k 28 _ rfl)
    · exact lv_tableIn (off := 1552) (tgt := 1591) hx hb dL_law_39 (by omega) (by omega) (by rw [h1]; rfl) (by decide) (k 29 _ rfl)
    · exact lv_tableIn (off := 1608) (tgt := 1647) hx hb dL_law_39 (by omega) (by omega) (by rw [h1]; rfl) (by decide) (k 30 _ rfl)
    · exact lv_tableIn (off := 1621) (tgt := 1660) hx hb dL_law_39 (by omega) (by omega) (by rw [h1]; rfl) (by decide) (k 31 _ rfl)
    · exact lv_tableIn (off := 1634) (tgt := 1673) hx hb dL_law_39 (by omega) (by omega) (by rw [h1]; rfl) (by decide) (k 32 _ rfl)
    · exact lv_tableIn (off := 1678) (tgt := 1717) hx hb dL_law_39 (by omega) (by omega) (by rw [h1]; rfl) (by decide) (k 33 _ rfl)
    · exact lv_tableIn (off := 1722) (tgt := 1761) hx hb dL_law_39 (by omega) (by omega) (by rw [h1]; rfl) (by decide) (k 34 _ rfl)
set_option maxRecDepth 100000 in
set_option maxHeartbeats 1000000 in
theorem law_loop {p : Program} {l : Launch} {e : Jvm.Env} {s : State} {m : MethodId} {below : List Frame} {meth : Method} {c : Code} {b L : Nat} {xs : Nat → Int32} {E : Env3} {γ α ρ : Nat → Nat} {o : Nat} {A : Nat → Prop} (hC : LawC p l s m #[Value.ref b] meth c b L xs E γ α ρ o A) : ∀ (n9 i : Nat), L ≤ i + 4 * n9 → i ≤ L + 4 → ∀ (d0 : Drawn), s.drawn.sameBut d0 lw_cs → ∀ (H : Heap) (locs : List Loc) (cells slots : Nat) (ls : Array Slot), cells ≤ 130 + i → slots ≤ 4100 + 6 * i → Dyn s E γ α ρ o A H locs → lv_has ls 9 (lvL b γ ρ o i) → W p l e room_1 (s.setDrawn d0) m #[Value.ref b] below meth c H locs cells slots (lw_Z below #[Value.ref b] s) (F0 m 23 ls []) := by
  have hx := hC.1.1
  have hb := hC.1.2.1
  have hr := hC.1.2.2.1
  have hlocks := hC.1.2.2.2.2.2.1
  have hL8 := hC.2.1.2.2
  have r1 : room_1.cells = 601024 := rfl
  have r2 : room_1.slots = 7293034 := rfl
  have hex : ∀ (d0 : Drawn), s.drawn.sameBut d0 lw_cs → ∀ (H : Heap) (locs : List Loc) (cells slots : Nat) (ls : Array Slot), cells ≤ 601024 → slots ≤ 7293034 → va_S (fun q => s.heap.size ≤ q) s.heap H locs → W p l e room_1 (s.setDrawn d0) m #[Value.ref b] below meth c H locs cells slots (lw_Z below #[Value.ref b] s) (F0 m 1781 ls []) := by
    intro d0 hd0 H locs cells slots ls h1 h2 hS
    refine lv_iconst (v := 1) hx hb dL_law_1781 (by decide) ?_
    refine va_forget (fun q hq => hS.2.2 q hq) ?_
    refine W.widen (k := 601024) (n := 7293034) h1 h2 ?_
    exact lw_ret hd0 hx hb hr hlocks dL_law_1782
  intro n9
  induction n9 with
  | zero =>
    intro i h1 h2 d0 hd0 H locs cells slots ls hc hs hD hl
    obtain ⟨st, sv, n, N, tx, hi, hLI, hcp, hrf, hou, hS⟩ := id hD
    exact law_test (hC.drawn d0) i h2 hl hS (fun _ => hex d0 hd0 H locs cells slots ls (by omega) (by omega) hS) (fun h9 => absurd h9 (by omega))
  | succ n9 ih =>
    intro i h1 h2 d0 hd0 H locs cells slots ls hc hs hD hl
    obtain ⟨st, sv, n, N, tx, hi, hLI, hcp, hrf, hou, hS⟩ := id hD
    refine law_test (hC.drawn d0) i h2 hl hS (fun _ => hex d0 hd0 H locs cells slots ls (by omega) (by omega) hS) (fun hi4 => ?_)
    have kb : ∀ (d1 : Drawn), s.drawn.sameBut d1 lw_cs → ∀ (H1 : Heap) (locs1 : List Loc) (ls1 : Array Slot), Dyn s E γ α ρ o A H1 locs1 → lv_has ls1 9 (lvL b γ ρ o i) → W p l e room_1 (s.setDrawn d1) m #[Value.ref b] below meth c H1 locs1 (cells + 1) (slots + 6) (lw_Z below #[Value.ref b] s) (F0 m 1775 ls1 []) := by
      intro d1 hd1 H1 locs1 ls1 hD1 hl1
      refine iv_iinc (k := 4) hx hb dL_law_1775 hl1 rfl (((i + 4 : Nat) : Int)) (by omega) (by decide) [(4, .int (I ((i + 4 : Nat) : Int))), (0, .ref b), (1, .ref (γ 0)), (2, .ref (ρ 0)), (3, .ref o)] rfl (fun ls2 hl2 => ?_)
      refine lv_goto (tgt := 23) hx hb dL_law_1778 (by decide) ?_
      exact ih (i + 4) (by omega) (by omega) d1 hd1 H1 locs1 (cells + 1) (slots + 6) ls2 (by omega) (by omega) hD1 (lv_sub hl2 [1, 2, 3, 4, 0] rfl)
    have hr1 : cells + 1 ≤ room_1.cells := by omega
    have hr2 : slots + 6 ≤ room_1.slots := by omega
    refine law_switch (hC.drawn d0) i hi4 hl hS (W.widen (k := cells + 1) (n := slots + 6) (by omega) (by omega) (kb d0 hd0 H locs ls hD hl)) (fun j pc hj => ?_)
    rcases j with _ | _ | _ | _ | _ | _ | _ | _ | _ | _ | _ | _ | _ | _ | _ | _ | _ | _ | _ | _ | _ | _ | _ | _ | _ | _ | _ | _ | _ | _ | _ | _ | _ | _ | _ | j
    · obtain rfl : 192 = pc := Option.some.inj hj
      exact case_setParent (hC.drawn d0) i hi4 hl hD hr1 hr2 (kb d0 hd0)
    · obtain rfl : 260 = pc := Option.some.inj hj
      exact case_setAges (hC.drawn d0) i hi4 hl hD hr1 hr2 (kb d0 hd0)
    · obtain rfl : 340 = pc := Option.some.inj hj
      exact case_setAnswer (hC.drawn d0) i hi4 hl hD hr1 hr2 (kb d0 hd0)
    · obtain rfl : 420 = pc := Option.some.inj hj
      exact case_setReference (hC.drawn d0) i hi4 hl hD hr1 hr2 (kb d0 hd0)
    · obtain rfl : 500 = pc := Option.some.inj hj
      exact case_takeAway (hC.drawn d0) i hi4 hl hD hr1 hr2 (kb d0 hd0)
    · obtain rfl : 556 = pc := Option.some.inj hj
      exact case_solve (hC.drawn d0) i hi4 hl hD hr1 hr2 (kb d0 hd0)
    · obtain rfl : 612 = pc := Option.some.inj hj
      exact case_forget (hC.drawn d0) i hi4 hl hD hr1 hr2 (kb d0 hd0)
    · obtain rfl : 668 = pc := Option.some.inj hj
      exact case_pass (hC.drawn d0) i hi4 hl hD hr1 hr2 (kb d0 hd0)
    · obtain rfl : 724 = pc := Option.some.inj hj
      exact case_time (hC.drawn d0) i hi4 hl hD hr1 hr2 (kb d0 hd0)
    · obtain rfl : 737 = pc := Option.some.inj hj
      exact case_parentOf (hC.drawn d0) i hi4 hl hD hr1 hr2 (kb d0 hd0)
    · obtain rfl : 793 = pc := Option.some.inj hj
      exact case_depthOf (hC.drawn d0) i hi4 hl hD hr1 hr2 (kb d0 hd0)
    · obtain rfl : 849 = pc := Option.some.inj hj
      exact case_kindOf (hC.drawn d0) i hi4 hl hD hr1 hr2 (kb d0 hd0)
    · obtain rfl : 905 = pc := Option.some.inj hj
      exact case_valueOf (hC.drawn d0) i hi4 hl hD hr1 hr2 (kb d0 hd0)
    · obtain rfl : 961 = pc := Option.some.inj hj
      exact case_truthOf (hC.drawn d0) i hi4 hl hD hr1 hr2 (kb d0 hd0)
    · obtain rfl : 1017 = pc := Option.some.inj hj
      exact case_rememberedOf (hC.drawn d0) i hi4 hl hD hr1 hr2 (kb d0 hd0)
    · obtain rfl : 1073 = pc := Option.some.inj hj
      exact case_ticksLeftOf (hC.drawn d0) i hi4 hl hD hr1 hr2 (kb d0 hd0)
    · obtain rfl : 1129 = pc := Option.some.inj hj
      exact case_referralLeft (hC.drawn d0) i hi4 hl hD hr1 hr2 (kb d0 hd0)
    · obtain rfl : 1185 = pc := Option.some.inj hj
      exact case_remembered (hC.drawn d0) i hi4 hl hD hr1 hr2 (kb d0 hd0)
    · obtain rfl : 1198 = pc := Option.some.inj hj
      exact case_rememberedByAccount (hC.drawn d0) i hi4 hl hD hr1 hr2 (kb d0 hd0)
    · obtain rfl : 1211 = pc := Option.some.inj hj
      exact case_ticksUntilForgetting (hC.drawn d0) i hi4 hl hD hr1 hr2 (kb d0 hd0)
    · obtain rfl : 1224 = pc := Option.some.inj hj
      exact case_isOutOfDate (hC.drawn d0) i hi4 hl hD hr1 hr2 (kb d0 hd0)
    · obtain rfl : 1287 = pc := Option.some.inj hj
      exact case_solved (hC.drawn d0) i hi4 hl hD hr1 hr2 (kb d0 hd0)
    · obtain rfl : 1300 = pc := Option.some.inj hj
      exact case_questions (hC.drawn d0) i hi4 hl hD hr1 hr2 (kb d0 hd0)
    · obtain rfl : 1313 = pc := Option.some.inj hj
      exact case_hits (hC.drawn d0) i hi4 hl hD hr1 hr2 (kb d0 hd0)
    · obtain rfl : 1326 = pc := Option.some.inj hj
      exact case_questionsTo (hC.drawn d0) i hi4 hl hD hr1 hr2 (kb d0 hd0)
    · obtain rfl : 1382 = pc := Option.some.inj hj
      exact case_meanQuestions hd0 hC i hi4 hl hD hr1 hr2 kb
    · obtain rfl : 1423 = pc := Option.some.inj hj
      exact case_wouldSolve (hC.drawn d0) i hi4 hl hD hr1 hr2 (kb d0 hd0)
    · obtain rfl : 1479 = pc := Option.some.inj hj
      exact case_costOf (hC.drawn d0) i hi4 hl hD hr1 hr2 (kb d0 hd0)
    · obtain rfl : 1535 = pc := Option.some.inj hj
      exact case_ticksUntilTruth (hC.drawn d0) i hi4 hl hD hr1 hr2 (kb d0 hd0)
    · obtain rfl : 1591 = pc := Option.some.inj hj
      exact case_append (hC.drawn d0) i hi4 hl hD hr1 hr2 (kb d0 hd0)
    · obtain rfl : 1647 = pc := Option.some.inj hj
      exact case_clearText (hC.drawn d0) i hi4 hl hD hr1 hr2 (kb d0 hd0)
    · obtain rfl : 1660 = pc := Option.some.inj hj
      exact case_firstError (hC.drawn d0) i hi4 hl hD hr1 hr2 (kb d0 hd0)
    · obtain rfl : 1673 = pc := Option.some.inj hj
      exact case_runActs (hC.drawn d0) i hi4 hl hD hr1 hr2 (kb d0 hd0)
    · obtain rfl : 1717 = pc := Option.some.inj hj
      exact case_undo (hC.drawn d0) i hi4 hl hD hr1 hr2 (kb d0 hd0)
    · obtain rfl : 1761 = pc := Option.some.inj hj
      exact case_digest (hC.drawn d0) i hi4 hl hD hr1 hr2 (kb d0 hd0)
    · exact absurd hj (by simp [startP])
