/-! the whole post: its cells, and a callee's contract at a part of the cells as one at the whole -/
abbrev rA (E : Env3) (n : Nat) (f : Nat → Option Nat) : va_E := .inl (E.2.2.1, n, .inr (.inr (.inr (.inr f))))
abbrev svW (E : Env3) (α β : Nat → Nat) (a b t9 : Nat) (f9 : Nat → Option Nat) (n : Int) (st sx : S) : va_W := [(a, .inr (5, [.ref (α 0), .ref b, .int (I n), .ref t9])), (b, rA E 6 f9)] ++ (stW E β sx ++ stW E α st)
abbrev hdW (E : Env3) (γ : Nat → Nat) (a0 : Nat) (L : List Nat) (n N ac : Int) (tx fs fn : S) : va_W := [(γ 0, .inr (5, [.ref a0, .ref (γ 1), .int (I n), .ref (γ 2)])), (γ 1, rA E 6 (fun j => L[j]?)), (γ 2, .inr (1, [.ref (γ 3), .int (I N), .ref (γ 4), .ref (γ 5), .int (I ac)])), (γ 3, iA E 60 tx), (γ 4, iA E 20 fs), (γ 5, iA E 20 fn)]
abbrev pWf (E : Env3) (γ α : Nat → Nat) (β : Nat → Nat → Nat) (L : List Nat) (st : S) (sv : Nat → S) (n N ac : Int) (tx fs fn : S) : va_W :=
  hdW E γ (α 0) L n N ac tx fs fn ++ (stW E α st ++ (stW E (β 0) (sv 0) ++ (stW E (β 1) (sv 1) ++ (stW E (β 2) (sv 2) ++ (stW E (β 3) (sv 3) ++ (stW E (β 4) (sv 4) ++ stW E (β 5) (sv 5)))))))
abbrev pW (E : Env3) (γ α : Nat → Nat) (β : Nat → Nat → Nat) (st : S) (sv : Nat → S) (n N ac : Int) (tx fs fn : S) : va_W := pWf E γ α β [β 0 0, β 1 0, β 2 0, β 3 0, β 4 0, β 5 0] st sv n N ac tx fs fn
theorem q_up (L : List Nat) (k v : Nat) (hk : k < L.length) : (fun j => (L.set k v)[j]?) = va_up (fun j => L[j]?) k (some v) := by
  funext j
  unfold va_up
  by_cases e : j = k
  · subst e; rw [if_pos rfl]; exact List.getElem?_set_self hk
  · rw [if_neg e]; exact List.getElem?_set_ne (fun h => e h.symm)
section IQ
variable {p : Program} {l : Launch} {e : Jvm.Env} {R : Room} {s : State} {m : MethodId} {args : Array Value} {below : List Frame} {meth : Method} {c : Code} {H : Heap} {locs : List Loc} {cells slots : Nat} {Q : State → Prop}
variable {cc : ByteArray} {pc : Nat} {ls : Array Slot} {rest : List Value} {E : Env3} {A : Nat → Prop} {H0 : Heap} {a : Nat} {ws : va_W}
theorem iq_ald (hx : p.tables.exec = Jvm.exec) (hb : c.code = cc) (hK : KB E s) (hP : va_P E.1 vwCl ws H) (q0 : Nat) {n : Nat} {f : Nat → Option Nat} (ha : ws[q0]? = some (a, rA E n f)) {i : Int} (k : Nat) (hk : i = (k : Int)) (hkn : k < n ∧ n ≤ 2147483647) {x : Nat} (hf : f k = some x) (hdg : decode cc pc = .ok (.aaload, 1))
    (kk : W p l e R s m args below meth c H locs cells slots Q (F0 m (pc + 1) ls (.ref x :: rest))) : W p l e R s m args below meth c H locs cells slots Q (F0 m pc ls (.int (I i) :: .ref a :: rest)) := by
  subst hk
  refine va_aldq hx hb hK.1 hP q0 1 ha rfl (I_in hkn.1 hkn.2) hdg ?_
  rw [I_nat (by omega), hf]
  exact kk
theorem iq_ast (hx : p.tables.exec = Jvm.exec) (hb : c.code = cc) (hK : KB E s) (hP : va_P E.1 vwCl ws H) (hD : va_D A ws) (hS : va_S A H0 H locs) (q0 qk : Nat) {n x : Nat} {vs : List Value} {f f' : Nat → Option Nat} (ha : ws[q0]? = some (a, rA E n f)) (hv : ws[qk]? = some (x, .inr (3, vs))) {i : Int} (k : Nat) (hk : i = (k : Int)) (hkn : k < n ∧ n ≤ 2147483647) (hdg : decode cc pc = .ok (.aastore, 1)) (ws' : va_W) (hw : ws.set q0 (a, rA E n f') = ws') (hf : f' = va_up f k (some x))
    (kk : ∀ (H1 : Heap) (locs1 : List Loc), va_P E.1 vwCl ws' H1 → va_S A H0 H1 locs1 → W p l e R s m args below meth c H1 locs1 cells slots Q (F0 m (pc + 1) ls rest)) : W p l e R s m args below meth c H locs cells slots Q (F0 m pc ls (.ref x :: .int (I i) :: .ref a :: rest)) := by
  subst hk
  refine va_astq hx hb hK.1 hP hD hS q0 1 qk 3 ha rfl hv rfl (I_in hkn.1 hkn.2) hdg ?_
  intro H1 locs1 hP1 _ hS1
  refine kk H1 locs1 ?_ hS1
  rw [I_nat (by omega), ← hf] at hP1
  rw [← hw]
  exact hP1
end IQ
theorem adIn_sub {ws wc : va_W} {is : List Nat} (hC : is.map (fun i => ws[i]?) = wc.map some) {q : Nat} (hq : adIn wc q) : adIn ws q := by
  obtain ⟨j, e', hj⟩ := hq
  have h9 : (is.map (fun i => ws[i]?))[j]? = some (some (q, e')) := by rw [hC, List.getElem?_map, hj]; rfl
  rw [List.getElem?_map] at h9
  cases hi : is[j]? with
  | none => rw [hi] at h9; cases h9
  | some i => rw [hi] at h9; exact ⟨i, e', Option.some.inj h9⟩
theorem filt_map {ws wc : va_W} : ∀ {is : List Nat}, is.map (fun i => ws[i]?) = wc.map some → is.filterMap (fun i => ws[i]?) = wc := by
  intro is h
  have : is.filterMap (fun i => ws[i]?) = (is.map (fun i => ws[i]?)).filterMap id := by rw [List.filterMap_map]; rfl
  rw [this, h, List.filterMap_map]
  exact List.filterMap_some
/-- what a callee does at some places of a world, told of the whole -/
theorem met_fr {l : Launch} {y : MethodName} {cs : List Cond} {rm : Room} {av : List Value} {E : Env3} {ws wc w1 ws' : va_W} {v : Option Value} {mc ms : Nat} (h : Met l y cs rm (pR av E wc) (qW v E wc w1) mc ms (adIn wc))
    (is : List Nat) (hC : is.map (fun i => ws[i]?) = wc.map some) (hD : va_D (fun _ => True) ws) (hn : va_nd is = true) (hl : is.length = w1.length) (hw : setAll ws is w1 = ws') : Met l y cs rm (pR av E ws) (qW v E ws ws') mc ms (adIn ws) := by
  intro p e h1 h2 h3 s m args below hf ha hPc hK
  obtain ⟨n, o, a, b, c, ⟨hq1, hq2, hz, hk⟩, L, hF, hL⟩ := h p e h1 h2 h3 s m args below hf ha ⟨hPc.1, hPc.2.1.sub is (filt_map hC), hPc.2.2⟩ hK
  exact ⟨n, o, a, b, c, ⟨hq1, mj_P is hPc.2.1 hD hC hk hq2 hw hn hl, hz, fun q g1 g2 => hk q g1 (fun g3 => g2 (adIn_sub hC g3))⟩, L, hF, fun q g => adIn_sub hC (hL q g)⟩
/-! worlds side by side: the callee's cells are the last ones, in any order -/
theorem P_mono {D : va_G} {cl : List vw_C} {ws vs : va_W} {H : Heap} (hm : ∀ q ∈ vs, q ∈ ws) (h : va_P D cl ws H) : va_P D cl vs H := by
  intro k q hk
  obtain ⟨i, hi⟩ := List.getElem?_of_mem (hm q (List.mem_of_getElem? hk))
  exact h i q hi
theorem adIn_mono {ws vs : va_W} (hm : ∀ q ∈ vs, q ∈ ws) {x : Nat} (h : adIn vs x) : adIn ws x := by
  obtain ⟨k, e, hk⟩ := h
  obtain ⟨i, hi⟩ := List.getElem?_of_mem (hm _ (List.mem_of_getElem? hk))
  exact ⟨i, e, hi⟩
theorem P_suf {A0 : Nat → Prop} {D : va_G} {cl : List vw_C} {X Y Y1 : va_W} {H H1 : Heap} (hP : va_P D cl (X ++ Y) H) (hD : va_D A0 (X ++ Y)) (hk : ∀ q : Nat, q < H.size → ¬ adIn Y q → H1[q]? = H[q]?) (hP1 : va_P D cl Y1 H1) : va_P D cl (X ++ Y1) H1 := by
  refine va_P.app (fun k q hq => ?_) hP1
  have hl := (List.getElem?_eq_some_iff.mp hq).1
  have h0 : (X ++ Y)[k]? = some q := by rw [List.getElem?_append_left hl]; exact hq
  refine (hP k q h0).kept (hk q.1 (hP k q h0).lt fun hin => ?_)
  obtain ⟨j, e, hj⟩ := hin
  have h2 : (X ++ Y)[X.length + j]? = some (q.1, e) := by rw [List.getElem?_append_right (by omega), show X.length + j - X.length = j by omega]; exact hj
  have := hD.1 k (X.length + j) q (q.1, e) h0 h2 rfl
  omega
theorem met_ap {l : Launch} {y : MethodName} {cs : List Cond} {rm : Room} {av : List Value} {E : Env3} {X Y Y1 : va_W} {v : Option Value} {mc ms : Nat} (h : Met l y cs rm (pR av E Y) (qW v E Y Y1) mc ms (adIn Y)) (hD : va_D (fun _ => True) (X ++ Y)) :
    Met l y cs rm (pR av E (X ++ Y)) (qW v E (X ++ Y) (X ++ Y1)) mc ms (adIn (X ++ Y)) := by
  have hm : ∀ q ∈ Y, q ∈ X ++ Y := fun q hq => List.mem_append_right X hq
  intro p e h1 h2 h3 s m args below hf ha hPc hK
  obtain ⟨n, o, a, b, c, ⟨hq1, hq2, hz, hk⟩, L, hF, hL⟩ := h p e h1 h2 h3 s m args below hf ha ⟨hPc.1, P_mono hm hPc.2.1, hPc.2.2⟩ hK
  exact ⟨n, o, a, b, c, ⟨hq1, P_suf hPc.2.1 hD hk hq2, hz, fun q g1 g2 => hk q g1 (fun g3 => g2 (adIn_mono hm g3))⟩, L, hF, fun q g => adIn_mono hm (hL q g)⟩
theorem met_pm {l : Launch} {y : MethodName} {cs : List Cond} {rm : Room} {av : List Value} {E : Env3} {ws vs ws1 vs1 : va_W} {v : Option Value} {mc ms : Nat} (h : Met l y cs rm (pR av E ws) (qW v E ws ws1) mc ms (adIn ws)) (hm : ∀ q ∈ ws, q ∈ vs) (h1 : ∀ q ∈ vs1, q ∈ ws1) :
    Met l y cs rm (pR av E vs) (qW v E vs vs1) mc ms (adIn vs) := by
  intro p e g1 g2 g3 s m args below hf ha hPc hK
  obtain ⟨n, o, a, b, c, ⟨hq1, hq2, hz, hk⟩, L, hF, hL⟩ := h p e g1 g2 g3 s m args below hf ha ⟨hPc.1, P_mono hm hPc.2.1, hPc.2.2⟩ hK
  exact ⟨n, o, a, b, c, ⟨hq1, P_mono h1 hq2, hz, fun q g1 g2 => hk q g1 (fun g3 => g2 (adIn_mono hm g3))⟩, L, hF, fun q g => adIn_mono hm (hL q g)⟩
/-- the same of worlds that are apart -/
theorem D_perm {A : Nat → Prop} {ws vs : va_W} (h : va_D A ws) (hm : ∀ q ∈ vs, q ∈ ws) (hn : (vs.map (·.1)).Nodup) : va_D A vs := by
  refine ⟨fun i j p q hp hq e => ?_, fun k q hk => ?_⟩
  · have g1 : (vs.map (·.1))[i]? = some p.1 := by rw [List.getElem?_map, hp]; rfl
    have g2 : (vs.map (·.1))[j]? = some q.1 := by rw [List.getElem?_map, hq]; rfl
    have hl := (List.getElem?_eq_some_iff.mp g1).1
    exact (List.getElem?_inj hl hn).mp (by rw [g1, g2, e])
  · obtain ⟨i, hi⟩ := List.getElem?_of_mem (hm q (List.mem_of_getElem? hk))
    exact h.2 i q hi
theorem call_A {p : Program} {l : Launch} {e : Jvm.Env} {R : Room} {s : State} {m : MethodId} {args : Array Value} {below : List Frame} {meth : Method} {c : Code} {H : Heap} {locs : List Loc} {cells slots : Nat} {Q : State → Prop} {pc : Nat} {ls : Array Slot} {rest st0 : List Value} {E : Env3} {A : Nat → Prop} {H0 : Heap}
    {v : Option Value} {aa : Array Value} {X Y Y1 : va_W} (hr : va_Run p l e R s m args below meth c H locs cells slots 0 0 (F0 m pc ls st0) rest (qW v E Y Y1 aa) (adIn Y)) (hP : va_P E.1 vwCl (X ++ Y) H) (hD : va_D A (X ++ Y)) (hS : va_S A H0 H locs) {st1 : List Value} (h1 : v.toList ++ rest = st1)
    (kk : ∀ (H1 : Heap) (locs1 : List Loc), va_P E.1 vwCl (X ++ Y1) H1 → va_S A H0 H1 locs1 → W p l e R s m args below meth c H1 locs1 cells slots Q (F0 m (pc + 3) ls st1)) : W p l e R s m args below meth c H locs cells slots Q (F0 m pc ls st0) := by
  intro T hT Z
  obtain ⟨v', st₀, t, T', L, h0, X', hL, e1, e2, ⟨hv, hP1, hz, hk⟩, st⟩ := hr T hT Z
  cases hv
  subst h1
  have hA : ∀ q, adIn Y q → A q := by
    intro q hq
    obtain ⟨i, e', hi⟩ := adIn_mono (fun q hq => List.mem_append_right X hq) hq
    exact hD.2 i _ hi
  rw [h0] at hz hk
  rw [← e1] at hP1 hz hk
  obtain ⟨t2, a1, b1⟩ := kk T'.heap (locs ++ L) (P_suf hP hD hk hP1)
    ⟨Nat.le_trans hS.1 hz, fun q h1 h2 => by rw [hk q (Nat.lt_of_lt_of_le h1 hS.1) (fun z => h2 (hA q z))]; exact hS.2.1 q h1 h2, fun q hq => by
      rcases List.mem_append.mp hq with h | h
      · exact hS.2.2 q h
      · exact hA _ (hL q h)⟩ T' rfl X'
  exact ⟨t2, st t2 a1, b1⟩
