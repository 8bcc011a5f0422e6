/-! contracts told of what the heap holds: Pin before, Po after, A the cells that may be written -/
def pP (av : List Value) (E : Env3) (Pin : Heap → Prop) : Array Value → State → Prop := fun v U => v = av.toArray ∧ KB E U ∧ Pin U.heap
def qH (v : Option Value) (A : Nat → Prop) (Po : Heap → Prop) : Array Value → State → Outcome → State → Prop := fun _ U oc t => oc = .returned v ∧ Po t.heap ∧ va_F A U t
theorem pP_blind {av : List Value} {E : Env3} {Pin : Heap → Prop} : FrameBlind (pP av E Pin) := fun _ U _ _ h => ⟨h.1, KB.same (s := U) rfl h.2.1, h.2.2⟩
theorem pP_V {b : Nat} {As : List Value} {E : Env3} {Pin : Heap → Prop} {s : State} {H : Heap} {ci : Nat} {C : String} {T : u_T} {N : Nat} (hK : KB E s) (hI : Pin H) (hb : ∃ fs, va_at E.1 vwCl (b, .inr (ci, fs)) H) (hc : vwCl[ci]? = some (C, T, N)) : PreV s H C b (pP (.ref b :: As) E Pin) As := by
  obtain ⟨fs, hb⟩ := hb
  exact ⟨pP_blind, va_recv hK.1 (ws := [(b, .inr (ci, fs))]) (fun k q hk => by rcases k with _ | k <;> simp at hk; subst hk; exact hb) (ci := ci) (q0 := 0) hc rfl, fun U hU hW => ⟨rfl, hK.warm hW, by rw [hU]; exact hI⟩⟩
/-- what the heap holds depends on the cells of A alone -/
def onA (A : Nat → Prop) (Po : Heap → Prop) : Prop := ∀ H H1 : Heap, Po H → H.size ≤ H1.size → (∀ q : Nat, q < H.size → A q → H1[q]? = H[q]?) → Po H1
section PR
variable {p : Program} {l : Launch} {e : Jvm.Env} {R : Room} {s : State} {m : MethodId} {args : Array Value} {below : List Frame} {meth : Method} {c : Code} {H : Heap} {locs : List Loc} {cells slots : Nat} {Q : State → Prop}
variable {pc : Nat} {ls : Array Slot} {rest st0 : List Value} {mc ms : Nat} {A A1 : Nat → Prop} {H0 : Heap} {E : Env3} {cc : ByteArray}
theorem call_P {v : Option Value} {Po : Heap → Prop} {aa : Array Value} (hr : va_Run p l e R s m args below meth c H locs cells slots mc ms (F0 m pc ls st0) rest (qH v A1 Po aa) A1) (hA : ∀ q, A1 q → A q) (hS : va_S A H0 H locs) {st1 : List Value} (h1 : v.toList ++ rest = st1)
    (kk : ∀ (H1 : Heap) (locs1 : List Loc), H.size ≤ H1.size → (∀ q : Nat, q < H.size → ¬ A1 q → H1[q]? = H[q]?) → Po H1 → va_S A H0 H1 locs1 → W p l e R s m args below meth c H1 locs1 (cells + mc) (slots + ms) Q (F0 m (pc + 3) ls st1)) : W p l e R s m args below meth c H locs cells slots Q (F0 m pc ls st0) := by
  intro T hT X
  obtain ⟨v', st₀, t, T', L, h0, X', hL, e1, e2, ⟨hv, hP1, hF⟩, st⟩ := hr T hT X
  cases hv
  subst h1
  obtain ⟨k1, k2, k3⟩ := vx_keep (A1 := A1) h0 e1 hS (fun q _ z => hA q z) hA hL hF
  obtain ⟨t2, a1, b1⟩ := kk T'.heap (locs ++ L) k1 k2 (by rw [e1]; exact hP1) k3 T' rfl X'
  exact ⟨t2, st t2 a1, b1⟩
end PR
theorem mk_w {l : Launch} {y : MethodName} {ws : List Cond} {rm : Room} {av : List Value} {E : Env3} {A : Nat → Prop} {Pin : Heap → Prop} {Qc : Array Value → State → Outcome → State → Prop} {mc ms : Nat} {free : Addr → Prop} {cc : ByteArray} {maxL : Nat} {ret : Option FieldType} {hh : List (Nat × Nat × Nat × Nat)}
    (hy : plainName y.cls = true) (hw : ws = Cond.codeWith y cc maxL ret hh :: ALL) (hn : (lg_sl av).length ≤ maxL)
    (body : ∀ (p : Program) (e : Jvm.Env) (s : State) (m : MethodId) (args : Array Value) (below : List Frame) (meth : Method) (c : Code), p.tables.exec = Jvm.exec → c.code = cc → meth.sig.returnType = ret → c.maxLocals = maxL → (∀ w ∈ ALL, w.before args s = true) → s.vm.findClass y.cls = some m.cls → meth.locks = false → c.exceptionTable.toList = Jvm.tableOf hh →
      KB E s → KX s → ZX A s s.heap → Pin s.heap → ∀ ls : Array Slot, lv_has ls maxL (lv_args 0 av) →
      W p l e rm s m args below meth c s.heap [] 0 0 (MQ below Qc args s mc ms free) (F0 m 0 ls [])) : Met l y ws rm (pX av E A Pin) Qc mc ms free := by
  have h := vx_ofWH (l := l) (y := y) (ws := ws) (rm := rm) (Pc := pX av E A Pin) (Qc := Qc) (XC := fun _ _ _ => False) (mc := mc) (ms := ms) (free := free) (cc := cc) (maxL := maxL) (ret := ret) (hh := hh) hy hw (by
    intro p e s m args below meth c s₁ B hml hv
    obtain ⟨rfl, hK, hKX, hZ, hI⟩ := hv
    rw [lg_entry_eq]
    have hts := atoms_spec (ws := ws) B.pre
    exact vx_ret (body p e s m _ below meth c B.exec B.bytes B.returns hml (fun w h => hts w (by rw [hw]; exact List.mem_cons_of_mem _ h)) (findClass_of_methodNamed B.named) B.notSynchronized (vx_table (x := y) B (hts _ (by rw [hw]; exact List.mem_cons_self))) hK hKX hZ hI _ (lv_entry av hn)))
  intro p e h1 h2 h3 s m args below hf ha hPc hK
  obtain ⟨n, o, a, b, c, hq⟩ := h p e h1 h2 h3 s m args below hf ha hPc hK
  rcases hq with hq | ⟨q, -, E', ce, L, hx, -⟩
  · exact ⟨n, o, a, b, c, hq⟩
  · exact hx.elim
