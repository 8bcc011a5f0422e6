/-! the whole post: its cells, and a callee's contract at a part of the cells as one at the whole -/
abbrev rA (E : Env3) (n : Nat) (f : Nat → Option Nat) : va_E := .inl (E.2.2.1, n, .inr (.inr (.inr (.inr f))))
abbrev svW (E : Env3) (α β : Nat → Nat) (a b t9 : Nat) (f9 : Nat → Option Nat) (n : Int) (st sx : S) : va_W := [(a, .inr (5, [.ref (α 0), .ref b, .int (I n), .ref t9])), (b, rA E 6 f9)] ++ (stW E α st ++ stW E β sx)
abbrev hdW (E : Env3) (γ : Nat → Nat) (a0 : Nat) (L : List Nat) (n N ac : Int) (tx fs fn : S) : va_W := [(γ 0, .inr (5, [.ref a0, .ref (γ 1), .int (I n), .ref (γ 2)])), (γ 1, rA E 6 (fun j => L[j]?)), (γ 2, .inr (1, [.ref (γ 3), .int (I N), .ref (γ 4), .ref (γ 5), .int (I ac)])), (γ 3, iA E 60 tx), (γ 4, iA E 20 fs), (γ 5, iA E 20 fn)]
abbrev pWf (E : Env3) (γ α : Nat → Nat) (β : Nat → Nat → Nat) (L : List Nat) (st : S) (sv : Nat → S) (n N ac : Int) (tx fs fn : S) : va_W :=
  hdW E γ (α 0) L n N ac tx fs fn ++ (stW E α st ++ (stW E (β 0) (sv 0) ++ (stW E (β 1) (sv 1) ++ (stW E (β 2) (sv 2) ++ (stW E (β 3) (sv 3) ++ (stW E (β 4) (sv 4) ++ stW E (β 5) (sv 5)))))))
abbrev pW (E : Env3) (γ α : Nat → Nat) (β : Nat → Nat → Nat) (st : S) (sv : Nat → S) (n N ac : Int) (tx fs fn : S) : va_W := pWf E γ α β [β 0 0, β 1 0, β 2 0, β 3 0, β 4 0, β 5 0] st sv n N ac tx fs fn
theorem q_up (L : List Nat) (k v : Nat) (hk : k < L.length) : (fun j => (L.set k v)[j]?) = va_up (fun j => L[j]?) k (some v) := by
  funext j
  unfold va_up
  by_cases e : j = k
  · subst e; rw [if_pos rfl]; exact List.getElem?_set_self hk
  · rw [if_neg e]; exact List.getElem?_set_ne (fun h => e h.symm)
section IQ
variable {p : Program} {l : Launch} {e : Jvm.Env} {R : Room} {s : State} {m : MethodId} {args : Array Value} {below : List Frame} {meth : Method} {c : Code} {H : Heap} {locs : List Loc} {cells slots : Nat} {Q : State → Prop}
variable {cc : ByteArray} {pc : Nat} {ls : Array Slot} {rest : List Value} {E : Env3} {A : Nat → Prop} {H0 : Heap} {a : Nat} {ws : va_W}
theorem iq_ald (hx : p.tables.exec = Jvm.exec) (hb : c.code = cc) (hK : KB E s) (hP : va_P E.1 vwCl ws H) (q0 : Nat) {n : Nat} {f : Nat → Option Nat} (ha : ws[q0]? = some (a, rA E n f)) {i : Int} (k : Nat) (hk : i = (k : Int)) (hkn : k < n ∧ n ≤ 2147483647) {x : Nat} (hf : f k = some x) (hdg : decode cc pc = .ok (.aaload, 1))
    (kk : W p l e R s m args below meth c H locs cells slots Q (F0 m (pc + 1) ls (.ref x :: rest))) : W p l e R s m args below meth c H locs cells slots Q (F0 m pc ls (.int (I i) :: .ref a :: rest)) := by
  subst hk
  refine va_aldq hx hb hK.1 hP q0 1 ha rfl (I_in hkn.1 hkn.2) hdg ?_
  rw [I_nat (by omega), hf]
  exact kk
theorem iq_ast (hx : p.tables.exec = Jvm.exec) (hb : c.code = cc) (hK : KB E s) (hP : va_P E.1 vwCl ws H) (hD : va_D A ws) (hS : va_S A H0 H locs) (q0 qk : Nat) {n x : Nat} {vs : List Value} {f f' : Nat → Option Nat} (ha : ws[q0]? = some (a, rA E n f)) (hv : ws[qk]? = some (x, .inr (3, vs))) {i : Int} (k : Nat) (hk : i = (k : Int)) (hkn : k < n ∧ n ≤ 2147483647) (hdg : decode cc pc = .ok (.aastore, 1)) (ws' : va_W) (hw : ws.set q0 (a, rA E n f') = ws') (hf : f' = va_up f k (some x))
    (kk : ∀ (H1 : Heap) (locs1 : List Loc), va_P E.1 vwCl ws' H1 → va_S A H0 H1 locs1 → W p l e R s m args below meth c H1 locs1 cells slots Q (F0 m (pc + 1) ls rest)) : W p l e R s m args below meth c H locs cells slots Q (F0 m pc ls (.ref x :: .int (I i) :: .ref a :: rest)) := by
  subst hk
  refine va_astq hx hb hK.1 hP hD hS q0 1 qk 3 ha rfl hv rfl (I_in hkn.1 hkn.2) hdg ?_
  intro H1 locs1 hP1 _ hS1
  refine kk H1 locs1 ?_ hS1
  rw [I_nat (by omega), ← hf] at hP1
  rw [← hw]
  exact hP1
end IQ
theorem adIn_sub {ws wc : va_W} {is : List Nat} (hC : is.map (fun i => ws[i]?) = wc.map some) {q : Nat} (hq : adIn wc q) : adIn ws q := by
  obtain ⟨j, e', hj⟩ := hq
  have h9 : (is.map (fun i => ws[i]?))[j]? = some (some (q, e')) := by rw [hC, List.getElem?_map, hj]; rfl
  rw [List.getElem?_map] at h9
  cases hi : is[j]? with
  | none => rw [hi] at h9; cases h9
  | some i => rw [hi] at h9; exact ⟨i, e', Option.some.inj h9⟩
theorem filt_map {ws wc : va_W} : ∀ {is : List Nat}, is.map (fun i => ws[i]?) = wc.map some → is.filterMap (fun i => ws[i]?) = wc := by
  intro is h
  have : is.filterMap (fun i => ws[i]?) = (is.map (fun i => ws[i]?)).filterMap id := by rw [List.filterMap_map]; rfl
  rw [this, h, List.filterMap_map]
  exact List.filterMap_some
/-- what a callee does at some places of a world, told of the whole -/
theorem met_fr {l : Launch} {y : MethodName} {cs : List Cond} {rm : Room} {av : List Value} {E : Env3} {ws wc w1 ws' : va_W} {v : Option Value} {mc ms : Nat} (h : Met l y cs rm (pR av E wc) (qW v E wc w1) mc ms (adIn wc))
    (is : List Nat) (hC : is.map (fun i => ws[i]?) = wc.map some) (hD : va_D (fun _ => True) ws) (hn : va_nd is = true) (hl : is.length = w1.length) (hw : setAll ws is w1 = ws') : Met l y cs rm (pR av E ws) (qW v E ws ws') mc ms (adIn ws) := by
  intro p e h1 h2 h3 s m args below hf ha hPc hK
  obtain ⟨n, o, a, b, c, ⟨hq1, hq2, hz, hk⟩, L, hF, hL⟩ := h p e h1 h2 h3 s m args below hf ha ⟨hPc.1, hPc.2.1.sub is (filt_map hC), hPc.2.2⟩ hK
  exact ⟨n, o, a, b, c, ⟨hq1, mj_P is hPc.2.1 hD hC hk hq2 hw hn hl, hz, fun q g1 g2 => hk q g1 (fun g3 => g2 (adIn_sub hC g3))⟩, L, hF, fun q g => adIn_sub hC (hL q g)⟩
