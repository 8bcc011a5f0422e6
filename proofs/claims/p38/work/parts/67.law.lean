/-! the law: a refused call, its rows, what stands in its loop, the end of a turn; written by law6.py -/
theorem x_cp {l : Launch} {y : MethodName} {cs : List Cond} {rm : Room} {av : List Value} {E : Env3} {mc ms : Nat} {γ α : Nat → Nat} {A : Nat → Prop} {st : S} {sv : Nat → S} {n N : Nat} {tx : S} {cls : String}
    (h : ∀ (β : Nat → Nat → Nat) (ac : Int) (fs fn : S), ndP γ α β → vx_Met l y cs rm (pX av E noA (va_P E.1 vwCl (pW E γ α β st sv (n : Int) (N : Int) ac tx fs fn))) qF (xT cls noA (fun _ => True)) mc ms noA) : vx_Met l y cs rm (pX av E noA (CP E γ α A st sv n N tx)) qF (xT cls noA (fun _ => True)) mc ms noA := by
  intro p e h1 h2 h3 s m args below hf' ha hPc hK
  obtain ⟨e1, hKB, hKX, hZ, β, ac, fs, fn, hN, hA, hP⟩ := hPc
  exact h β ac fs fn hN p e h1 h2 h3 s m args below hf' ha ⟨e1, hKB, hKX, hZ, hP⟩ hK
set_option maxHeartbeats 4000000 in
set_option maxRecDepth 100000 in
theorem m_L_refused_0 (l : Launch) (hl0 : l.stackTraces = false) (E : Env3) (γ α : Nat → Nat) (A : Nat → Prop) (st : S) (sv : Nat → S) (n N : Nat) (tx : S) (r : Nat) (hr : r < 36) (k8 : st (36 + 6 * r) = 0) : Met l yL_refused (Cond.codeWith yL_refused cL_refused 4 (some .boolean) [(0, 25, 26, 122)] :: ALL) ({ frames := 9, cells := 1, slots := 6, locals := 250 }) (pX [.ref (γ 0), .int (I 0), .int (I (r : Int))] E A (CP E γ α A st sv n N tx)) (qH (some (.int (I 1))) A (CP E γ α A st sv n N tx)) 1 6 A := by
  refine mk_w (by decide) rfl (Nat.le_of_ble_eq_true rfl) ?_
  intro p e s m args below meth c hx hb hrt hml hts hown hlocks htb hK hKX hZ hI ls hl
  have hown : s.vm.findClass RL = some m.cls := hown
  have hl : lv_has ls 4 [(0, .ref (γ 0)), (1, .int (I 0)), (2, .int (I (r : Int)))] := hl
  have hS : va_S A s.heap s.heap [] := va_S.rf
  refine lv_iload_n hx hb dL_refused_0 rfl (lv_lk hl rfl) ?_
  refine iv_if_ne (tgt := 12) hx hb dL_refused_1 (by decide) (by omega) (fun h9 => by exfalso; omega) (fun h9 => ?_)
  refine lv_aload_n hx hb dL_refused_4 rfl (lv_lk hl rfl) ?_
  refine lv_iload_n hx hb dL_refused_5 rfl (lv_lk hl rfl) ?_
  refine x_callC (own := RL) (name := xIS) (vx_runV ⟨hx, hb, hml, hown, hts⟩ (x_cp (fun β ac fs fn hN => x_takeAway_2 l hl0 E γ α β st sv (n : Int) (N : Int) ac tx fs fn r hr k8)) (cwV 1 hts (gi_V ml_L_116 im_X5_takeAway sl_X5_takeAway it_X5 cd_X5_takeAway) rfl rfl rfl (by decide +kernel) ⟨Nat.le_of_ble_eq_true rfl, Nat.le_of_ble_eq_true rfl⟩) (by obtain ⟨fs, h9⟩ := CP_0 _ hI; exact pX_V hK hKX (hZ.narrow (fun q h9 => h9.elim)) hI h9 rfl) rfl rfl hl.1 rfl (lv_room (Nat.le_of_ble_eq_true rfl)) dL_refused_6 ⟨Nat.le_of_ble_eq_true rfl, Nat.le_of_ble_eq_true rfl⟩) (fun q h9 => h9.elim) hS hown [] ⟨0, 25, 26, 122⟩ [] htb (fun z hz => nomatch hz) rfl (by decide) (hts _ cl_L_122) (hKX.word xc_IS) (fun q H locs k1 k2 hp1 hS => ?_)
  refine lv_astore_n (lv' := [(3, .ref q), (0, .ref (γ 0)), (1, .int (I 0)), (2, .int (I (r : Int)))]) hx hb dL_refused_26 rfl hl (by decide) rfl (fun ls hl => ?_)
  refine iv_iconst hx hb dL_refused_27 ?_
  exact W.zret (ty := .boolean) hx hb hrt (by rfl) (fun t ht hW => ⟨rfl, by rw [ht]; exact CP_on _ _ hI k1 (fun q hq _ => k2 q hq (fun z => z)), hS.F ht⟩) hS.2.2 dL_refused_28 hlocks
set_option maxHeartbeats 4000000 in
set_option maxRecDepth 100000 in
theorem m_L_refused_1 (l : Launch) (hl0 : l.stackTraces = false) (E : Env3) (γ α : Nat → Nat) (A : Nat → Prop) (st : S) (sv : Nat → S) (n N : Nat) (tx : S) (r : Nat) (hr : r < 36) (k8 : st (36 + 6 * r + 3) = 0) : Met l yL_refused (Cond.codeWith yL_refused cL_refused 4 (some .boolean) [(0, 25, 26, 122)] :: ALL) ({ frames := 9, cells := 1, slots := 6, locals := 250 }) (pX [.ref (γ 0), .int (I 1), .int (I (r : Int))] E A (CP E γ α A st sv n N tx)) (qH (some (.int (I 1))) A (CP E γ α A st sv n N tx)) 1 6 A := by
  refine mk_w (by decide) rfl (Nat.le_of_ble_eq_true rfl) ?_
  intro p e s m args below meth c hx hb hrt hml hts hown hlocks htb hK hKX hZ hI ls hl
  have hown : s.vm.findClass RL = some m.cls := hown
  have hl : lv_has ls 4 [(0, .ref (γ 0)), (1, .int (I 1)), (2, .int (I (r : Int)))] := hl
  have hS : va_S A s.heap s.heap [] := va_S.rf
  refine lv_iload_n hx hb dL_refused_0 rfl (lv_lk hl rfl) ?_
  refine iv_if_ne (tgt := 12) hx hb dL_refused_1 (by decide) (by omega) (fun h9 => ?_) (fun h9 => by exfalso; omega)
  refine lv_aload_n hx hb dL_refused_12 rfl (lv_lk hl rfl) ?_
  refine lv_iload_n hx hb dL_refused_13 rfl (lv_lk hl rfl) ?_
  refine x_callC (own := RL) (name := xIS) (vx_runV ⟨hx, hb, hml, hown, hts⟩ (x_cp (fun β ac fs fn hN => x_forget_2 l hl0 E γ α β st sv (n : Int) (N : Int) ac tx fs fn r hr k8)) (cwV 1 hts (gi_V ml_L_119 im_X5_forget sl_X5_forget it_X5 cd_X5_forget) rfl rfl rfl (by decide +kernel) ⟨Nat.le_of_ble_eq_true rfl, Nat.le_of_ble_eq_true rfl⟩) (by obtain ⟨fs, h9⟩ := CP_0 _ hI; exact pX_V hK hKX (hZ.narrow (fun q h9 => h9.elim)) hI h9 rfl) rfl rfl hl.1 rfl (lv_room (Nat.le_of_ble_eq_true rfl)) dL_refused_14 ⟨Nat.le_of_ble_eq_true rfl, Nat.le_of_ble_eq_true rfl⟩) (fun q h9 => h9.elim) hS hown [] ⟨0, 25, 26, 122⟩ [] htb (fun z hz => nomatch hz) rfl (by decide) (hts _ cl_L_122) (hKX.word xc_IS) (fun q H locs k1 k2 hp1 hS => ?_)
  refine lv_astore_n (lv' := [(3, .ref q), (0, .ref (γ 0)), (1, .int (I 1)), (2, .int (I (r : Int)))]) hx hb dL_refused_26 rfl hl (by decide) rfl (fun ls hl => ?_)
  refine iv_iconst hx hb dL_refused_27 ?_
  exact W.zret (ty := .boolean) hx hb hrt (by rfl) (fun t ht hW => ⟨rfl, by rw [ht]; exact CP_on _ _ hI k1 (fun q hq _ => k2 q hq (fun z => z)), hS.F ht⟩) hS.2.2 dL_refused_28 hlocks
theorem AC_tru {st : S} (h : AC st) (r : Nat) (k v u : Int) : AC (up (up (up st (36 + 6 * r) k) (36 + 6 * r + 1) v) (36 + 6 * r + 2) u) := by
  have g : ∀ j, j ≠ 36 + 6 * r → j ≠ 36 + 6 * r + 1 → j ≠ 36 + 6 * r + 2 → up (up (up st (36 + 6 * r) k) (36 + 6 * r + 1) v) (36 + 6 * r + 2) u j = st j := fun j h1 h2 h3 => by rw [up_ne _ _ h3, up_ne _ _ h2, up_ne _ _ h1]
  exact AC_same h (g _ (by omega) (by omega) (by omega)) (g _ (by omega) (by omega) (by omega)) (fun z hz => g _ (by omega) (by omega) (by omega)) (fun q hq => g _ (by omega) (by omega) (by omega))
theorem AC_zn {st : S} (h : AC st) (z k : Nat) (v : Int) (hz : z < 6) (hk : k < 3) : AC (up st (6 + 5 * z + k) v) :=
  AC_same h (up_ne _ _ (by omega)) (up_ne _ _ (by omega)) (fun y hy => up_ne _ _ (by omega)) (fun q hq => up_ne _ _ (by omega))
/-- the class' state in the law's loop, at its turn t -/
def LI9 (st : S) (n t : Nat) : Prop := n ≤ 6 ∧ IB 9999 st ∧ IT st ∧ AC st ∧ st 0 ≤ 60 * (t : Int)
theorem LI9.next {st : S} {n t : Nat} (h : LI9 st n t) : LI9 st n (t + 1) := by
  obtain ⟨h1, h2, h3, h4, h5⟩ := h
  exact ⟨h1, h2, h3, h4, by omega⟩
abbrev CP0 (E : Env3) (γ α : Nat → Nat) (A : Nat → Prop) (st : S) (sv : Nat → S) (n : Nat) : Heap → Prop := CP E γ α A st sv n 0 (fun _ => 0)
def DynP (s : State) (E : Env3) (γ α β : Nat → Nat) (A : Nat → Prop) (t : Nat) (H : Heap) (locs : List Loc) : Prop :=
  ∃ (st : S) (sv : Nat → S) (n : Nat) (q z r a mm ee : S), LI9 st n t ∧ LR st q z r a mm ee ∧ CP0 E γ α A st sv n H ∧ va_P E.1 vwCl (lwW E β q z r a mm ee) H ∧ va_S (fun q => s.heap.size ≤ q) s.heap H locs
def LawC (p : Program) (l : Launch) (s : State) (m : MethodId) (args : Array Value) (meth : Method) (c : Code) (b L : Nat) (xs : Nat → Int32) (E : Env3) (γ α β : Nat → Nat) (A : Nat → Prop) : Prop :=
  (p.tables.exec = Jvm.exec ∧ c.code = cL_law ∧ meth.sig.returnType = ret ∧ c.maxLocals = 17 ∧ s.vm.findClass RL = some m.cls ∧ meth.locks = false ∧ (∀ w ∈ ALL, w.before args s = true)) ∧
  (va_X b L xs s s.heap ∧ b < s.heap.size ∧ L ≤ 260) ∧
  (KB E s ∧ KX s ∧ ZX (fun q => s.heap.size ≤ q) s s.heap ∧ l.stackTraces = false) ∧
  ((∀ q, A q → s.heap.size ≤ q) ∧ (∀ q, adB β q → s.heap.size ≤ q) ∧ (∀ q, A q → ¬ adB β q) ∧ dR β 6)
theorem lw_X {l : Launch} {y : MethodName} {cs : List Cond} {rm : Room} {av : List Value} {E : Env3} {v : Option Value} {mc ms : Nat} {β : Nat → Nat} {st' q z r a mm ee : S}
    (h : Met l y cs rm (pR av E (lwW E β q z r a mm ee)) (qX v E (lwW E β q z r a mm ee) (fun (g : LRs st' r a) => lwG E β r a g)) mc ms (adIn (lwW E β q z r a mm ee))) :
    Met l y cs rm (pP av E (va_P E.1 vwCl (lwW E β q z r a mm ee))) (qH v (adB β) (fun H => ∃ g : LRs st' r a, va_P E.1 vwCl (lwG E β r a g) H)) mc ms (adB β) := by
  intro p e h1 h2 h3 s m args below hf' ha hPc hK
  obtain ⟨e1, hKB, hP⟩ := hPc
  obtain ⟨k, o, a, b, c, ⟨hq1, hq2, hz, hk⟩, L, hF, hL⟩ := h p e h1 h2 h3 s m args below hf' ha ⟨e1, hP, hKB⟩ hK
  exact ⟨k, o, a, b, c, ⟨hq1, hq2, hz, fun q g1 g2 => hk q g1 (fun g3 => g2 (adB_in.mp g3))⟩, L, hF, fun q g => adB_in.mp (hL q g)⟩
theorem pP_S {av : List Value} {E : Env3} {Pin : Heap → Prop} {s : State} {H : Heap} (hK : KB E s) (hI : Pin H) : PreS s H (pP av E Pin) av :=
  ⟨pP_blind, fun U hU hW => ⟨rfl, hK.warm hW, by rw [hU]; exact hI⟩⟩
section LS
variable {p : Program} {l : Launch} {e : Jvm.Env} {R : Room} {s : State} {m : MethodId} {args : Array Value} {below : List Frame} {meth : Method} {c : Code} {H : Heap} {locs : List Loc} {cells slots : Nat} {Q : State → Prop}
variable {cc : ByteArray} {pc : Nat} {ls : Array Slot} {rest st0 : List Value} {E : Env3} {A : Nat → Prop} {H0 : Heap} {a : Nat} {ws : va_W}
theorem va_iastK (hx : p.tables.exec = Jvm.exec) (hb : c.code = cc) (hK : KB E s) (hP : va_P E.1 vwCl ws H) (hD : va_D A ws) (hS : va_S A H0 H locs) (q0 : Nat) {n : Nat} {f : Nat → Int32} (ha : ws[q0]? = some (a, .inl (E.2.1, n, .inl f))) {i : Int32} {x : Int32} (hin : vp_in i n) (hdg : decode cc pc = .ok (.iastore, 1))
    (kk : ∀ (H1 : Heap) (locs1 : List Loc), va_P E.1 vwCl (ws.set q0 (a, .inl (E.2.1, n, .inl (upd f i.toNatClampNeg x)))) H1 → H.size ≤ H1.size → (∀ q : Nat, q < H.size → ¬ q = a → H1[q]? = H[q]?) → va_S A H0 H1 locs1 → W p l e R s m args below meth c H1 locs1 cells slots Q (F0 m (pc + 1) ls rest)) : W p l e R s m args below meth c H locs cells slots Q (F0 m pc ls (.int x :: .int i :: .ref a :: rest)) := by
  refine W.iast hx hb (hP q0 _ ha) ((hK.1.2 0 _ rfl).1 n (fun j => .int (f j))) (fun q => by cases q) (by show ¬ (i < 0 ∨ (arrV _ _ _).slots.size ≤ _); rw [arrV_size]; exact hin) rfl rfl hdg fun H1 e z oq => ?_
  refine kk H1 _ (hP.set hD ha ?_ oq) (Nat.le_of_eq z.symm) (fun q _ hq => oq q hq) (hS.put z oq (hD.2 q0 _ ha))
  show H1[a]? = some (vp_cell _ _)
  rw [e]
  rw [vp_cell_i, vp_cell_i, arrV_store]
  congr 2
  funext q
  by_cases hq : q = i.toNatClampNeg
  · subst hq
    simp [updV, upd]
  · simp [updV, upd, hq]
theorem iv_iastK (hx : p.tables.exec = Jvm.exec) (hb : c.code = cc) (hK : KB E s) (hP : va_P E.1 vwCl ws H) (hD : va_D A ws) (hS : va_S A H0 H locs) (q0 : Nat) {n : Nat} {g : Nat → Int} (ha : ws[q0]? = some (a, iA E n g)) {i v : Int} (k : Nat) (hk : i = (k : Int)) (hkn : k < n ∧ n ≤ 2147483647) (hdg : decode cc pc = .ok (.iastore, 1)) (ws' : va_W) (hw : ws.set q0 (a, iA E n (up g k v)) = ws')
    (kk : ∀ (H1 : Heap) (locs1 : List Loc), va_P E.1 vwCl ws' H1 → H.size ≤ H1.size → (∀ q : Nat, q < H.size → ¬ q = a → H1[q]? = H[q]?) → va_S A H0 H1 locs1 → W p l e R s m args below meth c H1 locs1 cells slots Q (F0 m (pc + 1) ls rest)) : W p l e R s m args below meth c H locs cells slots Q (F0 m pc ls (.int (I v) :: .int (I i) :: .ref a :: rest)) := by
  subst hk
  refine va_iastK hx hb hK hP hD hS q0 ha (I_in hkn.1 hkn.2) hdg ?_
  intro H1 locs1 hP1 z oq hS1
  refine kk H1 locs1 ?_ z oq hS1
  rw [I_nat (by omega), upd_I] at hP1
  rw [← hw]
  exact hP1
end LS
abbrev lvT (b : Nat) (γ β : Nat → Nat) (t : Nat) : List (Nat × Value) := [(0, .ref b), (1, .ref (γ 0)), (2, .ref (β 0)), (3, .ref (β 1)), (4, .ref (β 2)), (5, .ref (β 3)), (6, .ref (β 4)), (7, .ref (β 5)), (8, .int (I (t : Int)))]
set_option maxHeartbeats 1000000 in
set_option maxRecDepth 100000 in
theorem law_tail {p : Program} {l : Launch} {e : Jvm.Env} {s : State} {m : MethodId} {args : Array Value} {below : List Frame} {meth : Method} {c : Code} {H : Heap} {locs : List Loc} {cells slots : Nat} {Q : State → Prop} {ls : Array Slot} {b L : Nat} {xs : Nat → Int32} {E : Env3} {γ α β : Nat → Nat} {A : Nat → Prop} (hC : LawC p l s m args meth c b L xs E γ α β A) (t : Nat) {st : S} {sv : Nat → S} {n : Nat} {q z r a mm ee : S} (hLI : LI9 st n (t + 1)) (hL : LR st q z r a mm ee) (hc : CP0 E γ α A st sv n H) (hP : va_P E.1 vwCl (lwW E β q z r a mm ee) H) (hS : va_S (fun q => s.heap.size ≤ q) s.heap H locs) {y : Int32}
    (hl : lv_has ls 17 ((10, .int y) :: lvT b γ β t)) (hr1 : cells + 1633 ≤ room_1.cells) (hr2 : slots + 44070 ≤ room_1.slots)
    (kk : ∀ (H1 : Heap) (locs1 : List Loc) (ls1 : Array Slot), DynP s E γ α β A (t + 1) H1 locs1 → lv_has ls1 17 (lvT b γ β t) → W p l e room_1 s m args below meth c H1 locs1 (cells + 1633) (slots + 44070) Q (F0 m 738 ls1 [])) : W p l e room_1 s m args below meth c H locs cells slots Q (F0 m 715 ls []) := by
  obtain ⟨⟨hx, hb, hr, hml, hown, hlocks, hts⟩, ⟨hX, hbl, hL8⟩, ⟨hK, hKX, hZ, hl0⟩, ⟨hA, hA2, hAB, hβ⟩⟩ := id hC
  have hl : lv_has ls 17 [(10, .int y), (0, .ref b), (1, .ref (γ 0)), (2, .ref (β 0)), (3, .ref (β 1)), (4, .ref (β 2)), (5, .ref (β 3)), (6, .ref (β 4)), (7, .ref (β 5)), (8, .int (I (t : Int)))] := hl
  refine lv_aload_n hx hb dL_law_715 rfl (lv_lk hl rfl) ?_
  refine lv_iload hx hb dL_law_716 (lv_lk hl rfl) ?_
  refine iv_iconst hx hb dL_law_718 ?_
  refine lv_ishr hx hb dL_law_719 ?_
  refine lv_aload_n hx hb dL_law_720 rfl (lv_lk hl rfl) ?_
  refine lv_aload_n hx hb dL_law_721 rfl (lv_lk hl rfl) ?_
  refine lv_aload hx hb dL_law_722 (lv_lk hl rfl) ?_
  refine lv_aload hx hb dL_law_724 (lv_lk hl rfl) ?_
  refine lv_aload hx hb dL_law_726 (lv_lk hl rfl) ?_
  refine lv_aload hx hb dL_law_728 (lv_lk hl rfl) ?_
  refine call_P (va_runS ⟨hx, hb, hml, hown, hts⟩ (m_L_same l E γ α β hβ A hAB st sv n 0 (fun _ => 0) q z r a mm ee hLI.2.1 hLI.2.2.1 hLI.2.2.2.1 hL _) (va_cwS 8 hts (gi_S ml_L_150 st_L_same it_L cd_L_same) rfl rfl rfl (by decide +kernel) ⟨Nat.le_of_ble_eq_true rfl, Nat.le_of_ble_eq_true rfl⟩) (pP_S hK ⟨hc, hP⟩) rfl rfl hl.1 rfl (lv_room (Nat.le_of_ble_eq_true rfl)) dL_law_730 ⟨by omega, by omega⟩) (fun q9 h9 => hA2 q9 h9) hS rfl (fun H1 locs k1 k2 hP hS => ?_)
  have hc := CP_on _ _ hc k1 (fun q9 hq h9 => k2 q9 hq (hAB q9 h9))
  refine iv_if_ne (tgt := 738) hx hb dL_law_733 (by decide) (by omega) (fun h9 => ?_) (fun h9 => by exfalso; omega)
  refine W.widen (k := cells + 1633) (n := slots + 44070) (by omega) (by omega) ?_
  exact kk H1 locs ls ⟨st, sv, n, q, z, r, a, mm, ee, hLI, hL, hc, hP, hS⟩ (lv_sub hl [1, 2, 3, 4, 5, 6, 7, 8, 9] rfl)
