/-! exceptions of the class: the words of a throw, what a start of it needs, the row of a throw, a callee that always throws -/
def xn1 : List String := ["java/lang/RuntimeException", "java/lang/Exception"]
abbrev xIO : String := "java/lang/IndexOutOfBoundsException"
abbrev xIA : String := "java/lang/IllegalArgumentException"
abbrev xIS : String := "java/lang/IllegalStateException"
/-- the words of a throw that a change of what is resolved doesn't keep by goodWord: they are carried as a premise -/
def xW : List Cond := (vx_atS RX5 39 xIO xn1 ++ (vx_atS RX5 84 xIA xn1 ++ vx_atS RX5 99 xIS xn1)).filter (fun w => !goodWord w)
theorem xW_ok : xW.all (fun w => w.onTables && w.faceAtom) = true := by decide +kernel
theorem xW_tbl : xW.all (fun w => decide (w ∈ lw_tbl)) = true := by decide +kernel
def xS : List (Nat × String) := [(291, "there is no such zone"), (293, "there is no such riddle"), (37, "the root has no parent"), (295, "an argument is out of its range"), (82, "a riddle does not refer to itself"), (97, "the riddle has nothing"), (106, "nothing is remembered of the riddle"), (115, "the time would be too high")]
def xNc : List (String × String) := []
def KX (U : State) : Prop := (∀ w ∈ xW, w.before #[] U = true) ∧ (∀ q ∈ xS, ∃ sa, vk_R RX5 q.1 q.2 sa U) ∧ ∀ q ∈ xNc, va_Nc q.1 q.2 U
theorem KX.warm {s U : State} (hW : s.WarmedH U.vm) (h : KX s) : KX U := by
  refine ⟨fun w hw => ?_, fun q hq => ?_, fun q hq => va_Nc.moved hW.alike (h.2.2 q hq)⟩
  · have h1 := List.all_eq_true.mp xW_ok w hw
    simp only [Bool.and_eq_true] at h1
    exact va_tabs (u := s.setVm U.vm) (A := #[]) h1.1 rfl (Cond.faceAtom_setVm hW.alike w h1.2 (h.1 w hw))
  · obtain ⟨sa, h1⟩ := h.2.1 q hq
    exact ⟨sa, vk_R.warm hW h1⟩
theorem KX.same {s U : State} (hv : s.vm = U.vm) (h : KX s) : KX U := by
  refine ⟨fun w hw => ?_, fun q hq => ?_, fun q hq => va_Nc.moved (by rw [hv]; exact Vm.Alike.refl _) (h.2.2 q hq)⟩
  · have h1 := List.all_eq_true.mp xW_ok w hw
    simp only [Bool.and_eq_true] at h1
    exact va_tabs h1.1 hv (h.1 w hw)
  · obtain ⟨sa, h1⟩ := h.2.1 q hq
    exact ⟨sa, vk_R.same hv.symm h1⟩
def ZX (A : Nat → Prop) (U : State) (H : Heap) : Prop := vx_Zq Bundle.tN "UNASSIGNED_STACK" Bundle.steD A U H ∧ vx_Zq Bundle.tN "SUPPRESSED_SENTINEL" Bundle.listD A U H
theorem ZX.moved {A : Nat → Prop} {u U : State} {H : Heap} (hvm : u.vm.Alike U.vm) (h : ZX A u H) : ZX A U H := ⟨h.1.moved hvm, h.2.moved hvm⟩
theorem ZX.kept {A : Nat → Prop} {U : State} {H H1 : Heap} (h : ZX A U H) (hq : ∀ a : Nat, a < H.size → ¬ A a → H1[a]? = H[a]?) : ZX A U H1 := ⟨h.1.kept hq, h.2.kept hq⟩
theorem ZX.none {A : Nat → Prop} {U : State} {H : Heap} (h : ZX A U H) : ZX (fun _ => False) U H := ⟨h.1.narrow (fun _ z => z.elim), h.2.narrow (fun _ z => z.elim)⟩
abbrev noA : Nat → Prop := fun _ => False
/-- a start: the arguments, the tables, what a throw needs (the statics of Throwable lie outside A), and what the heap holds -/
def pX (av : List Value) (E : Env3) (A : Nat → Prop) (Pin : Heap → Prop) : Array Value → State → Prop := fun v U => v = av.toArray ∧ KB E U ∧ KX U ∧ ZX A U U.heap ∧ Pin U.heap
theorem pX_blind {av : List Value} {E : Env3} {A : Nat → Prop} {Pin : Heap → Prop} : FrameBlind (pX av E A Pin) := fun _ U _ _ h => ⟨h.1, KB.same (s := U) rfl h.2.1, KX.same (s := U) rfl h.2.2.1, ZX.moved (u := U) (Vm.Alike.refl _) h.2.2.2.1, h.2.2.2.2⟩
theorem pX_S {av : List Value} {E : Env3} {A : Nat → Prop} {Pin : Heap → Prop} {s : State} {H : Heap} (hK : KB E s) (hKX : KX s) (hZ : ZX A s H) (hI : Pin H) : PreS s H (pX av E A Pin) av :=
  ⟨pX_blind, fun U hU hW => ⟨rfl, hK.warm hW, hKX.warm hW, by rw [hU]; exact hZ.moved hW.alike, by rw [hU]; exact hI⟩⟩
theorem pX_V {b : Nat} {As : List Value} {E : Env3} {A : Nat → Prop} {Pin : Heap → Prop} {s : State} {H : Heap} {ci : Nat} {fs : List Value} {C : String} {T : u_T} {N : Nat} (hK : KB E s) (hKX : KX s) (hZ : ZX A s H) (hI : Pin H) (hb : va_at E.1 vwCl (b, .inr (ci, fs)) H) (hc : vwCl[ci]? = some (C, T, N)) : PreV s H C b (pX (.ref b :: As) E A Pin) As :=
  ⟨pX_blind, va_recv hK.1 (ws := [(b, .inr (ci, fs))]) (fun k q hk => by rcases k with _ | k <;> simp at hk; subst hk; exact hb) (ci := ci) (q0 := 0) hc rfl, fun U hU hW => ⟨rfl, hK.warm hW, hKX.warm hW, by rw [hU]; exact hZ.moved hW.alike, by rw [hU]; exact hI⟩⟩
def qF : Array Value → State → Outcome → State → Prop := fun _ _ _ _ => False
/-- thrown: an object of the class cls; no old cell outside A has changed -/
def xT (cls : String) (A : Nat → Prop) (Po : Heap → Prop) : String → State → State → Prop := fun E st t => E = cls ∧ Po t.heap ∧ va_F A st t
/-- what the heap H holds still stands when only new cells come -/
def upH (Po : Heap → Prop) (H : Heap) : Prop := ∀ H1 : Heap, H.size ≤ H1.size → (∀ q : Nat, q < H.size → H1[q]? = H[q]?) → Po H1
def xOk (cls : String) (ik ic : Nat) : Prop := Cond.classLink RX5 ik cls ∈ ALL ∧ Cond.initialized cls ∈ ALL ∧ (∀ w ∈ vx_atS RX5 ic cls xn1, w ∈ ALL ∨ w ∈ xW) ∧ (∀ w ∈ Cond.classLink RX5 ik cls :: Cond.initialized cls :: vx_atS RX5 ic cls xn1, vx_ot w = true) ∧ Bundle.fit cls = true
theorem xOk_of {cls : String} {ik ic : Nat} (h1 : Cond.classLink RX5 ik cls ∈ ALL) (h2 : Cond.initialized cls ∈ ALL) (h3 : ((vx_atS RX5 ic cls xn1).filter goodWord).all (fun w => decide (w ∈ lw_tbl)) = true)
    (h4 : ((vx_atS RX5 ic cls xn1).filter (fun w => !goodWord w)).all (fun w => decide (w ∈ xW)) = true) (h5 : (Cond.classLink RX5 ik cls :: Cond.initialized cls :: vx_atS RX5 ic cls xn1).all vx_ot = true) (h6 : Bundle.fit cls = true) : xOk cls ik ic := by
  refine ⟨h1, h2, fun w hw => ?_, fun w hw => List.all_eq_true.mp h5 w hw, h6⟩
  by_cases g : goodWord w = true
  · exact Or.inl (List.mem_filter.mpr ⟨of_decide_eq_true (List.all_eq_true.mp h3 w (List.mem_filter.mpr ⟨hw, g⟩)), g⟩)
  · refine Or.inr (of_decide_eq_true (List.all_eq_true.mp h4 w (List.mem_filter.mpr ⟨hw, ?_⟩)))
    show (!goodWord w) = true
    cases hgw : goodWord w
    · rfl
    · exact absurd hgw g
theorem xIO_ok : xOk xIO 35 39 := xOk_of cl_X5_35 it_IndexOutOfBoundsException (by decide +kernel) (by decide +kernel) (by decide +kernel) (by decide +kernel)
theorem xIA_ok : xOk xIA 80 84 := xOk_of cl_X5_80 it_IllegalArgumentException (by decide +kernel) (by decide +kernel) (by decide +kernel) (by decide +kernel)
theorem xIS_ok : xOk xIS 95 99 := xOk_of cl_X5_95 it_IllegalStateException (by decide +kernel) (by decide +kernel) (by decide +kernel) (by decide +kernel)
section XT
variable {p : Program} {l : Launch} {e : Jvm.Env} {R : Room} {s : State} {m : MethodId} {args : Array Value} {below : List Frame} {meth : Method} {c : Code} {H : Heap} {locs : List Loc} {cells slots : Nat}
variable {pc : Nat} {ls : Array Slot} {rest st0 : List Value} {mc ms : Nat} {Qc : Array Value → State → Outcome → State → Prop} {cls : String} {free : Addr → Prop} {A : Nat → Prop} {Po : Heap → Prop}
theorem x_F (hS : va_S A s.heap H locs) {t : State} (h1 : H.size ≤ t.heap.size) (h2 : ∀ q : Nat, q < H.size → t.heap[q]? = H[q]?) : va_F A s t :=
  ⟨Nat.le_trans hS.1 h1, fun q hq hA => by rw [h2 q (Nat.lt_of_lt_of_le hq hS.1)]; exact hS.2.1 q hq hA⟩
/-- 'throw new E(text)' of the class, the text by a narrow index -/
theorem x_throwS {cc : ByteArray} {ik ic is maxL : Nat} {text : String} {lv : List (Nat × Value)} (hx : p.tables.exec = Jvm.exec) (hb : c.code = cc) (hl0 : l.stackTraces = false) (hok : xOk cls ik ic) (hown : s.vm.findClass RX5 = some m.cls) (hml : c.maxLocals = maxL) (hl : lv_has ls maxL lv) (hts : ∀ w ∈ ALL, w.before args s = true)
    (hKX : KX s) (hZ : ZX A s s.heap) (hS : va_S A s.heap H locs) (hPo : upH Po H) (htb : ∀ x ∈ c.exceptionTable.toList, False) (hlocks : meth.locks = false) (hq : (is, text) ∈ xS)
    (d0 : decode cc pc = .ok (.new ik, 3)) (d3 : decode cc (pc + 3) = .ok (.dup, 1)) (d4 : decode cc (pc + 4) = .ok (.ldc is, 2)) (d6 : decode cc (pc + 6) = .ok (.invokespecial ic, 3)) (d9 : decode cc (pc + 9) = .ok (.athrow, 1))
    (hR : 5 < R.frames ∧ (rest.map fun v => v.category).sum + 82 ≤ R.locals ∧ cells + 1 ≤ R.cells ∧ slots + 6 ≤ R.slots) (hc : cells + 1 ≤ mc) (hs : slots + 6 ≤ ms) :
    W p l e R s m args below meth c H locs cells slots (vx_MQ below Qc (xT cls A Po) args s mc ms A) (F0 m pc ls rest) := by
  obtain ⟨sa, hstr⟩ := hKX.2.1 _ hq
  exact vx_throwS hx hb hl0 hown hok.2.2.2.2 (by intro n hn; simp [xn1] at hn; rcases hn with rfl | rfl <;> decide +kernel) (hts _ hok.1) (hts _ hok.2.1) hstr
    (fun w hw => (hok.2.2.1 w hw).elim (fun h => hts w h) (fun h => va_tabs (by have := List.all_eq_true.mp xW_ok w h; simp only [Bool.and_eq_true] at this; exact this.1) rfl (hKX.1 w h)))
    hok.2.2.2.1 hZ.1 hZ.2 hS (hl.1.trans hml.symm) d0 d3 d4 d6 d9 (fun x hx => (htb x hx).elim) hR.1 hR.2.1 hR.2.2.1 hR.2.2.2 hlocks (fun t _ h1 h2 => ⟨rfl, hPo _ h1 h2, x_F hS h1 h2⟩) (fun z hz => hS.2.2 z hz) hc hs
/-- .. by a wide index -/
theorem x_throwW {cc : ByteArray} {ik ic is maxL : Nat} {text : String} {lv : List (Nat × Value)} (hx : p.tables.exec = Jvm.exec) (hb : c.code = cc) (hl0 : l.stackTraces = false) (hok : xOk cls ik ic) (hown : s.vm.findClass RX5 = some m.cls) (hml : c.maxLocals = maxL) (hl : lv_has ls maxL lv) (hts : ∀ w ∈ ALL, w.before args s = true)
    (hKX : KX s) (hZ : ZX A s s.heap) (hS : va_S A s.heap H locs) (hPo : upH Po H) (htb : ∀ x ∈ c.exceptionTable.toList, False) (hlocks : meth.locks = false) (hq : (is, text) ∈ xS)
    (d0 : decode cc pc = .ok (.new ik, 3)) (d3 : decode cc (pc + 3) = .ok (.dup, 1)) (d4 : decode cc (pc + 4) = .ok (.ldc_w is, 3)) (d6 : decode cc (pc + 7) = .ok (.invokespecial ic, 3)) (d9 : decode cc (pc + 10) = .ok (.athrow, 1))
    (hR : 5 < R.frames ∧ (rest.map fun v => v.category).sum + 82 ≤ R.locals ∧ cells + 1 ≤ R.cells ∧ slots + 6 ≤ R.slots) (hc : cells + 1 ≤ mc) (hs : slots + 6 ≤ ms) :
    W p l e R s m args below meth c H locs cells slots (vx_MQ below Qc (xT cls A Po) args s mc ms A) (F0 m pc ls rest) := by
  obtain ⟨sa, hstr⟩ := hKX.2.1 _ hq
  exact vx_throwSW hx hb hl0 hown hok.2.2.2.2 (by intro n hn; simp [xn1] at hn; rcases hn with rfl | rfl <;> decide +kernel) (hts _ hok.1) (hts _ hok.2.1) hstr
    (fun w hw => (hok.2.2.1 w hw).elim (fun h => hts w h) (fun h => va_tabs (by have := List.all_eq_true.mp xW_ok w h; simp only [Bool.and_eq_true] at this; exact this.1) rfl (hKX.1 w h)))
    hok.2.2.2.1 hZ.1 hZ.2 hS (hl.1.trans hml.symm) d0 d3 d4 d6 d9 (fun x hx => (htb x hx).elim) hR.1 hR.2.1 hR.2.2.1 hR.2.2.2 hlocks (fun t _ h1 h2 => ⟨rfl, hPo _ h1 h2, x_F hS h1 h2⟩) (fun z hz => hS.2.2 z hz) hc hs
/-- a callee that throws: its exception leaves this method, too -/
theorem x_callT {aa : Array Value} {A1 : Nat → Prop} {Po1 : Heap → Prop} (hr : vx_Run p l e R s m args below meth c H locs cells slots 1 6 (F0 m pc ls st0) rest (qF aa) (xT cls A1 Po1) A1) (hA : ∀ q, A1 q → A q) (hPo : ∀ H1 : Heap, H.size ≤ H1.size → (∀ q : Nat, q < H.size → ¬ A1 q → H1[q]? = H[q]?) → Po1 H1 → Po H1) (hS : va_S A s.heap H locs) (htb : ∀ x ∈ c.exceptionTable.toList, False) (hlocks : meth.locks = false) (hc : cells + 1 ≤ mc) (hs : slots + 6 ≤ ms) :
    W p l e R s m args below meth c H locs cells slots (vx_MQ below Qc (xT cls A Po) args s mc ms A) (F0 m pc ls st0) := by
  intro T hT X
  rcases hr T hT X with ⟨v, st₀, t, T', L, h0, X', hL, e1, e2, hF, st⟩ | ⟨q, st₀, t, T', L, E, ce, h0, X', hL, e1, e2, ⟨rfl, hp1, hF⟩, hce, hcv, hcl, st⟩
  · exact hF.elim
  · obtain ⟨k1, k2, k3⟩ := vx_keep (A1 := A1) h0 e1 hS (fun q _ z => hA q z) hA hL hF
    obtain ⟨t2, a1, b1⟩ := vx_out (pc := pc) (ls := ls) (rest := rest) (XC := xT E A Po) (Qc := Qc) (free := A) (H := T'.heap) (fun x hx => (htb x hx).elim) hlocks (by rw [e1]; exact hce) hcv hcl
      (fun t' ht _ => ⟨rfl, by rw [ht]; exact hPo _ k1 k2 (by rw [e1]; exact hp1), x_F (H := T'.heap) k3 (by rw [ht]; exact Nat.le_refl _) (fun q _ => by rw [ht])⟩) (fun z hz => k3.2.2 z hz) hc hs T' rfl X'
    exact ⟨t2, st.trans a1, b1⟩
/-- .. it is caught here, by the row x of the table -/
theorem x_callC {aa : Array Value} {A1 : Nat → Prop} {Po1 : Heap → Prop} {Q : State → Prop} {own name : String} (hr : vx_Run p l e R s m args below meth c H locs cells slots 1 6 (F0 m pc ls st0) rest (qF aa) (xT cls A1 Po1) A1) (hA : ∀ q, A1 q → A q) (hS : va_S A s.heap H locs) (hown : s.vm.findClass own = some m.cls) (pre : List ExceptionTableEntry) (x : ExceptionTableEntry) (suf : List ExceptionTableEntry) (hsplit : c.exceptionTable.toList = pre ++ x :: suf)
    (hpass : ∀ z ∈ pre, covers z pc = false ∨ (z.catchType ≠ 0 ∧ ∃ nm : String, (Cond.classLink own z.catchType nm).before args s = true ∧ va_Nc cls nm s)) (hxc : covers x pc = true) (h0 : x.catchType ≠ 0)
    (hlink : (Cond.classLink own x.catchType name).before args s = true) (hcast : (Cond.castable cls name).before args s = true)
    (kk : ∀ (q : Addr) (H1 : Heap) (locs1 : List Loc), H.size ≤ H1.size → (∀ q : Nat, q < H.size → ¬ A1 q → H1[q]? = H[q]?) → Po1 H1 → va_S A s.heap H1 locs1 → W p l e R s m args below meth c H1 locs1 (cells + 1) (slots + 6) Q (F0 m x.handlerPc ls [.ref q])) : W p l e R s m args below meth c H locs cells slots Q (F0 m pc ls st0) := by
  intro T hT X
  rcases hr T hT X with ⟨v, st₀, t, T', L, h0, X', hL, e1, e2, hF, st⟩ | ⟨q, st₀, t, T', L, E, ce, h00, X', hL, e1, e2, ⟨rfl, hp1, hF⟩, hce, hcv, hcl, st⟩
  · exact hF.elim
  · obtain ⟨k1, k2, k3⟩ := vx_keep (A1 := A1) h00 e1 hS (fun q _ z => hA q z) hA hL hF
    obtain ⟨t2, a1, b1⟩ := vx_catch (H := T'.heap) hown pre x suf hsplit hpass hxc h0 hlink hcast (by rw [e1]; exact hce) hcv hcl (rest := rest) (kk q T'.heap (locs ++ L) k1 k2 (by rw [e1]; exact hp1) k3) T' rfl X'
    exact ⟨t2, st.trans a1, b1⟩
end XT
/-- a body that always throws -/
theorem mk_x {l : Launch} {y : MethodName} {ws : List Cond} {rm : Room} {av : List Value} {E : Env3} {A : Nat → Prop} {Pin : Heap → Prop} {Qc : Array Value → State → Outcome → State → Prop} {XC : String → State → State → Prop} {mc ms : Nat} {free : Addr → Prop} {cc : ByteArray} {maxL : Nat} {ret : Option FieldType}
    (hy : plainName y.cls = true) (hw : ws = Cond.code y cc maxL ret :: ALL) (hn : (lg_sl av).length ≤ maxL)
    (body : ∀ (p : Program) (e : Jvm.Env) (s : State) (m : MethodId) (args : Array Value) (below : List Frame) (meth : Method) (c : Code), p.tables.exec = Jvm.exec → c.code = cc → meth.sig.returnType = ret → c.maxLocals = maxL → (∀ w ∈ ALL, w.before args s = true) → s.vm.findClass y.cls = some m.cls → meth.locks = false → (∀ x ∈ c.exceptionTable.toList, False) →
      KB E s → KX s → ZX A s s.heap → Pin s.heap → ∀ ls : Array Slot, lv_has ls maxL (lv_args 0 av) →
      W p l e rm s m args below meth c s.heap [] 0 0 (vx_MQ below Qc XC args s mc ms free) (F0 m 0 ls [])) : vx_Met l y ws rm (pX av E A Pin) Qc XC mc ms free := by
  refine vx_ofW (cc := cc) (maxL := maxL) (ret := ret) hy hw ?_
  intro p e s m args below meth c s₁ B hml htb hv
  obtain ⟨rfl, hK, hKX, hZ, hI⟩ := hv
  rw [lg_entry_eq]
  have hts := atoms_spec (ws := ws) B.pre
  exact body p e s m _ below meth c B.exec B.bytes B.returns hml (fun w h => hts w (by rw [hw]; exact List.mem_cons_of_mem _ h)) (findClass_of_methodNamed B.named) B.notSynchronized htb hK hKX hZ hI _ (lv_entry av hn)
