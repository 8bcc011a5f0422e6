/-! the numbers: whole numbers read as ints of the machine -/
def I (z : Int) : Int32 := Int32.ofInt z
theorem I_add (a b : Int) : I a + I b = I (a + b) := (Int32.ofInt_add a b).symm
theorem I_mul (a b : Int) : I a * I b = I (a * b) := (Int32.ofInt_mul a b).symm
theorem I_sub (a b : Int) : I a - I b = I (a - b) := (Int32.ofInt_sub a b).symm
theorem I_toInt {a : Int} (h : -2147483648 ≤ a ∧ a ≤ 2147483647) : (I a).toInt = a := by
  unfold I
  rw [Int32.toInt_ofInt]
  unfold Int.bmod
  have : (a % ((2:Nat)^32 : Nat)) = if 0 ≤ a then a else a + 4294967296 := by split <;> omega
  rw [this]
  have hz : ((Int32.size : Nat) : Int) = 4294967296 := rfl
  dsimp only
  rw [hz]
  split <;> split <;> omega
theorem I_of (x : Int32) : I x.toInt = x := Int32.ofInt_toInt x
theorem I_rng (x : Int32) : -2147483648 ≤ x.toInt ∧ x.toInt ≤ 2147483647 := by
  have h1 := Int32.le_toInt x
  have h2 := Int32.toInt_lt x
  omega
theorem I_inj {a b : Int} (ha : -2147483648 ≤ a ∧ a ≤ 2147483647) (hb : -2147483648 ≤ b ∧ b ≤ 2147483647) : I a = I b ↔ a = b := by
  constructor
  · intro h
    have := congrArg Int32.toInt h
    rwa [I_toInt ha, I_toInt hb] at this
  · intro h; rw [h]
theorem I_lt {a b : Int} (ha : -2147483648 ≤ a ∧ a ≤ 2147483647) (hb : -2147483648 ≤ b ∧ b ≤ 2147483647) : I a < I b ↔ a < b := by
  rw [Int32.lt_iff_toInt_lt, I_toInt ha, I_toInt hb]
theorem I_le {a b : Int} (ha : -2147483648 ≤ a ∧ a ≤ 2147483647) (hb : -2147483648 ≤ b ∧ b ≤ 2147483647) : I a ≤ I b ↔ a ≤ b := by
  rw [Int32.le_iff_toInt_le, I_toInt ha, I_toInt hb]
theorem I_0 : I 0 = 0 := rfl
theorem I_div {x y : Nat} (hx : x ≤ 2147483647) (hy : 0 < y ∧ y ≤ 2147483647) : I (x : Int) / I (y : Int) = I ((x / y : Nat) : Int) := by
  apply Int32.toInt_inj.mp
  have hne : I (y : Int) ≠ -1 := by
    rw [show (-1 : Int32) = I (-1) from rfl, Ne, I_inj (by omega) (by omega)]; omega
  have hle : x / y ≤ x := Nat.div_le_self x y
  obtain ⟨q, hq⟩ : ∃ q, q = x / y := ⟨_, rfl⟩
  rw [← hq] at hle ⊢
  rw [Int32.toInt_div_of_ne_right _ _ hne, I_toInt (by omega), I_toInt (by omega), I_toInt (by omega), hq]
  rfl
theorem I_nat {n : Nat} (h : n ≤ 2147483647) : (I (n : Int)).toNatClampNeg = n := by
  rw [← Int32.toNat_toInt, I_toInt (by omega)]
  simp
theorem I_in {n L : Nat} (h : n < L) (hL : L ≤ 2147483647) : vp_in (I (n : Int)) L := by
  unfold vp_in
  rw [I_nat (by omega)]
  rw [show (0 : Int32) = I 0 from rfl, I_lt (by omega) (by omega)]
  omega
def up {α : Type} (f : Nat → α) (k : Nat) (v : α) : Nat → α := fun j => if j = k then v else f j
theorem up_eq {α : Type} (f : Nat → α) (k : Nat) (v : α) : up f k v k = v := by simp [up]
theorem up_ne {α : Type} (f : Nat → α) {k j : Nat} (v : α) (h : j ≠ k) : up f k v j = f j := by simp [up, h]
theorem upd_I (g : Nat → Int) (k : Nat) (v : Int) : upd (fun i => I (g i)) k (I v) = fun i => I (up g k v i) := by
  funext j
  unfold upd up
  split <;> rfl
/-! the tables' side of a method's start: classes, array classes, private members of nest mates -/
abbrev nwL : List Cond := [.methodLinkNest RX5 9 yX3_init RX5, .methodLinkNest RX3 34 yX0_init RX5, .methodLinkNest RX5 26 yX1_init RX5,
  .methodLinkNest RX3 88 yX5_read RX5, .methodLinkNest RX2 29 yX5_read RX5, .methodLinkNest RX4 25 yX5_read RX5,
  .methodLinkNest RX4 21 yX5_copyRow RX5, .methodLinkNest RX2 21 yX5_copyRow RX5, .methodLinkNest RX3 50 yX5_copyRow RX5, .methodLinkNest RX0 31 yX5_copyRow RX5, .methodLinkNest RX2 25 yX5_write RX5,
  .methodLinkNest RX0 35 yX5_read RX5, .methodLinkNest RX0 39 yX5_write RX5, .methodLinkNest RX3 98 yX5_write RX5]
def nwB : Cond → Bool
  | .methodLinkNest _ _ _ _ => true
  | _ => false
def nwA (L : List Cond) (U : State) : Prop := ∀ w ∈ L, nwB w = true ∧ va_Nw w U
theorem nwA.warm {L : List Cond} {s U : State} (hW : s.WarmedH U.vm) (h : nwA L s) : nwA L U := by
  intro w hw
  obtain ⟨h1, h2⟩ := h w hw
  refine ⟨h1, ?_⟩
  cases w <;> first | exact va_Nw.warmM hW h2 | cases h1
theorem nwA.same {L : List Cond} {s U : State} (hv : s.vm = U.vm) (h : nwA L s) : nwA L U := by
  intro w hw
  obtain ⟨h1, h2⟩ := h w hw
  refine ⟨h1, ?_⟩
  cases w <;> first | (cases h1; done) | exact va_Nw.same rfl hv h2
abbrev Env3 : Type := va_G × ClassId × ClassId × ClassId
abbrev tyL (E : Env3) : List (ClassId × FieldType) := [(E.2.1, .int), (E.2.2.1, .object RX3)]
def KB (E : Env3) (U : State) : Prop := va_K E.1 vwCl (tyL E) U ∧ nwA nwL U ∧ va_AO RX3 U
theorem KB.warm {E : Env3} {s U : State} (hW : s.WarmedH U.vm) (h : KB E s) : KB E U := ⟨va_K.moved hW.alike h.1, nwA.warm hW h.2.1, va_AO.moved hW.alike h.2.2⟩
theorem KB.same {E : Env3} {s U : State} (hv : s.vm = U.vm) (h : KB E s) : KB E U := ⟨va_K.moved (by rw [hv]; exact Vm.Alike.refl _) h.1, nwA.same hv h.2.1, va_AO.moved (by rw [hv]; exact Vm.Alike.refl _) h.2.2⟩
/-! a contract's start and ends -/
def adIn (ws : va_W) : Nat → Prop := fun q => ∃ (k : Nat) (e : va_E), ws[k]? = some (q, e)
theorem adIn_eq {a b : va_W} (h : a.map (·.1) = b.map (·.1)) {q : Nat} (hq : adIn a q) : adIn b q := by
  obtain ⟨k, e, hk⟩ := hq
  have h1 : (a.map (·.1))[k]? = some q := by rw [List.getElem?_map, hk]; rfl
  rw [h, List.getElem?_map] at h1
  cases hb : b[k]? with
  | none => rw [hb] at h1; cases h1
  | some x => rw [hb] at h1; exact ⟨k, x.2, by rw [hb]; exact congrArg some (Prod.ext (Option.some.inj h1) rfl)⟩
def pR (av : List Value) (E : Env3) (ws : va_W) : Array Value → State → Prop := fun v U => v = av.toArray ∧ va_P E.1 vwCl ws U.heap ∧ KB E U
theorem pR_blind {av : List Value} {E : Env3} {ws : va_W} : FrameBlind (pR av E ws) := fun _ U _ _ h => ⟨h.1, h.2.1, KB.same (s := U) rfl h.2.2⟩
theorem pR_S {av : List Value} {E : Env3} {ws : va_W} {s : State} {H : Heap} (hP : va_P E.1 vwCl ws H) (hK : KB E s) : PreS s H (pR av E ws) av :=
  ⟨pR_blind, fun U hU hW => ⟨rfl, by rw [hU]; exact hP, hK.warm hW⟩⟩
theorem pR_V {b : Nat} {As : List Value} {E : Env3} {ws : va_W} {s : State} {H : Heap} {ci q0 : Nat} {fs : List Value} {C : String} {T : u_T} {N : Nat} (hP : va_P E.1 vwCl ws H) (hK : KB E s) (hb : ws[q0]? = some (b, .inr (ci, fs))) (hc : vwCl[ci]? = some (C, T, N)) : PreV s H C b (pR (.ref b :: As) E ws) As :=
  ⟨pR_blind, va_recv hK.1 hP (ci := ci) (q0 := q0) hc hb, fun U hU hW => ⟨rfl, by rw [hU]; exact hP, hK.warm hW⟩⟩
/-- an answer, and nothing is written -/
def qS (v : Option Value) : Array Value → State → Outcome → State → Prop := fun _ st oc t => oc = .returned v ∧ t.heap = st.heap
/-- an answer, and the cells of ws have become ws' -/
def qW (v : Option Value) (E : Env3) (ws ws' : va_W) : Array Value → State → Outcome → State → Prop := fun _ st oc t => oc = .returned v ∧ va_P E.1 vwCl ws' t.heap ∧ va_F (adIn ws) st t
/-- the same, some of the cells are told by no one -/
def qX {σ : Type} (v : Option Value) (E : Env3) (ws : va_W) (ws' : σ → va_W) : Array Value → State → Outcome → State → Prop := fun _ st oc t => oc = .returned v ∧ (∃ g : σ, va_P E.1 vwCl (ws' g) t.heap) ∧ va_F (adIn ws) st t
theorem dm {A : Nat → Prop} {ws ws' : va_W} (h : va_D A ws) (e : ws.map (·.1) = ws'.map (·.1)) : va_D A ws' := by
  have key : ∀ (k : Nat) (q : Nat × va_E), ws'[k]? = some q → ∃ q0, ws[k]? = some q0 ∧ q0.1 = q.1 := by
    intro k q hk
    have h1 : (ws'.map (·.1))[k]? = some q.1 := by rw [List.getElem?_map, hk]; rfl
    rw [← e, List.getElem?_map] at h1
    cases hb : ws[k]? with
    | none => rw [hb] at h1; cases h1
    | some x => rw [hb] at h1; exact ⟨x, rfl, Option.some.inj h1⟩
  refine ⟨fun i j x y hi hj hxy => ?_, fun k q hk => ?_⟩
  · obtain ⟨x0, h1, h2⟩ := key i x hi
    obtain ⟨y0, h3, h4⟩ := key j y hj
    exact h.1 i j x0 y0 h1 h3 (h2.trans (hxy.trans h4.symm))
  · obtain ⟨q0, h1, h2⟩ := key k q hk
    rw [← h2]
    exact h.2 k q0 h1
theorem dself {ws : va_W} (h : va_D (fun _ => True) ws) : va_D (adIn ws) ws := ⟨h.1, fun k q hk => ⟨k, q.2, hk⟩⟩
def setAll : va_W → List Nat → va_W → va_W
  | ws, i :: is, q :: qs => setAll (ws.set i q) is qs
  | ws, _, _ => ws
/-- cells at some places are new, those at the others stay -/
theorem mj_P {D : va_G} {cl : List vw_C} {A0 : Nat → Prop} {ws wc w1 ws' : va_W} {H H1 : Heap} (is : List Nat) (hP : va_P D cl ws H) (hD : va_D A0 ws) (hC : is.map (fun i => ws[i]?) = wc.map some)
    (hk : ∀ q : Nat, q < H.size → ¬ adIn wc q → H1[q]? = H[q]?) (hP1 : va_P D cl w1 H1) (hw : setAll ws is w1 = ws') (hn : va_nd is = true) (hl : is.length = w1.length) : va_P D cl ws' H1 := by
  have rest : ∀ (k : Nat) (q : Nat × va_E), ws[k]? = some q → k ∉ is → va_at D cl q H1 := by
    intro k q hq hk'
    refine (hP k q hq).kept (hk q.1 (hP k q hq).lt fun hin => ?_)
    obtain ⟨j, e, hj⟩ := hin
    have h1 : (is.map (fun i => ws[i]?))[j]? = some (some (q.1, e)) := by rw [hC, List.getElem?_map, hj]; rfl
    rw [List.getElem?_map] at h1
    cases hi : is[j]? with
    | none => rw [hi] at h1; cases h1
    | some i =>
      rw [hi] at h1
      have := hD.1 k i q (q.1, e) hq (Option.some.inj h1) rfl
      subst this
      exact hk' (List.mem_of_getElem? hi)
  have gen : ∀ (is : List Nat) (w1 v : va_W), va_nd is = true → is.length = w1.length → (∀ (k : Nat) (q : Nat × va_E), v[k]? = some q → k ∉ is → va_at D cl q H1) → (∀ (k : Nat) (q : Nat × va_E), w1[k]? = some q → va_at D cl q H1) → va_P D cl (setAll v is w1) H1 := by
    intro is
    induction is with
    | nil =>
      intro w1 v _ hl h1 h2
      cases w1 with
      | nil => exact fun k q hk => h1 k q hk (fun h => nomatch h)
      | cons a b => simp at hl
    | cons i is ih =>
      intro w1 v hn hl h1 h2
      cases w1 with
      | nil => simp at hl
      | cons q1 w1 =>
        simp only [va_nd, Bool.and_eq_true, decide_eq_true_eq] at hn
        refine ih w1 (v.set i q1) hn.2 (by simpa using hl) (fun k q hk hni => ?_) (fun k q hk => h2 (k + 1) q (by simpa using hk))
        by_cases hki : k = i
        · subst hki
          have hlt : k < v.length := by
            have := (List.getElem?_eq_some_iff.mp hk).1
            simpa using this
          rw [List.getElem?_set_self hlt] at hk
          cases hk
          exact h2 0 _ rfl
        · rw [List.getElem?_set_ne (Ne.symm hki)] at hk
          refine h1 k q hk ?_
          intro hm
          rcases List.mem_cons.mp hm with h | h
          · exact hki h
          · exact hni h
  rw [← hw]
  exact gen is w1 ws hn hl rest hP1
theorem nwK {E : Env3} {s : State} (h : KB E s) {w : Cond} (i : Nat) (hi : nwL[i]? = some w) : va_Nw w s := (h.2.1 w (List.mem_of_getElem? hi)).2
theorem mk_met {l : Launch} {y : MethodName} {ws : List Cond} {rm : Room} {av : List Value} {E : Env3} {w0 : va_W} {Qc : Array Value → State → Outcome → State → Prop} {mc ms : Nat} {free : Addr → Prop} {cc : ByteArray} {maxL : Nat} {ret : Option FieldType}
    (hy : plainName y.cls = true) (hw : ws = Cond.code y cc maxL ret :: ALL) (hn : (lg_sl av).length ≤ maxL)
    (body : ∀ (p : Program) (e : Jvm.Env) (s : State) (m : MethodId) (args : Array Value) (below : List Frame) (meth : Method) (c : Code), p.tables.exec = Jvm.exec → c.code = cc → meth.sig.returnType = ret → c.maxLocals = maxL → (∀ w ∈ ALL, w.before args s = true) → s.vm.findClass y.cls = some m.cls → meth.locks = false → meth.name = y.name →
      va_P E.1 vwCl w0 s.heap → KB E s → ∀ ls : Array Slot, lv_has ls maxL (lv_args 0 av) →
      W p l e rm s m args below meth c s.heap [] 0 0 (MQ below Qc args s mc ms free) (F0 m 0 ls [])) : Met l y ws rm (pR av E w0) Qc mc ms free := by
  refine Met.ofW (cc := cc) (maxL := maxL) (ret := ret) hy hw ?_
  intro p e s m args below meth c s₁ B hml hv
  obtain ⟨rfl, hP, hK⟩ := hv
  rw [lg_entry_eq]
  have hts := atoms_spec (ws := ws) B.pre
  exact body p e s m _ below meth c B.exec B.bytes B.returns hml (fun w h => hts w (by rw [hw]; exact List.mem_cons_of_mem _ h)) (findClass_of_methodNamed B.named) B.notSynchronized (name_of_methodNamed B.named B.method).1 hP hK _ (lv_entry av hn)
theorem lv_lk {ls : Array Slot} {nL : Nat} {lv : List (Nat × Value)} (h : lv_has ls nL lv) {i : Nat} {v : Value} (hk : lv.find? (fun q => q.1 == i) = some (i, v)) : ls[i]? = some (.val v) := h.2.2 (i, v) (List.mem_of_find?_eq_some hk)
section IV
variable {p : Program} {l : Launch} {e : Jvm.Env} {R : Room} {s : State} {m : MethodId} {args : Array Value} {below : List Frame} {meth : Method} {c : Code} {H : Heap} {locs : List Loc} {cells slots : Nat} {Q : State → Prop}
variable {cc : ByteArray} {pc : Nat} {ls : Array Slot} {rest : List Value}
/-- the top number by another name -/
theorem iv_eq {a : Int} (b : Int) (h : a = b) (k : W p l e R s m args below meth c H locs cells slots Q (F0 m pc ls (.int (I b) :: rest))) : W p l e R s m args below meth c H locs cells slots Q (F0 m pc ls (.int (I a) :: rest)) := by rw [h]; exact k
theorem iv_iconst (hx : p.tables.exec = Jvm.exec) (hb : c.code = cc) {n : Int} (hdg : decode cc pc = .ok (.iconst n, 1)) (k : W p l e R s m args below meth c H locs cells slots Q (F0 m (pc + 1) ls (.int (I n) :: rest))) : W p l e R s m args below meth c H locs cells slots Q (F0 m pc ls rest) := lv_iconst hx hb hdg rfl k
theorem iv_bipush (hx : p.tables.exec = Jvm.exec) (hb : c.code = cc) {n : Int} (hdg : decode cc pc = .ok (.bipush n, 2)) (hv : (Int8.ofInt n).toInt32 = I n) (k : W p l e R s m args below meth c H locs cells slots Q (F0 m (pc + 2) ls (.int (I n) :: rest))) : W p l e R s m args below meth c H locs cells slots Q (F0 m pc ls rest) := lv_bipush hx hb hdg hv k
theorem iv_sipush (hx : p.tables.exec = Jvm.exec) (hb : c.code = cc) {n : Int} (hdg : decode cc pc = .ok (.sipush n, 3)) (hv : (Int16.ofInt n).toInt32 = I n) (k : W p l e R s m args below meth c H locs cells slots Q (F0 m (pc + 3) ls (.int (I n) :: rest))) : W p l e R s m args below meth c H locs cells slots Q (F0 m pc ls rest) := lv_sipush hx hb hdg hv k
theorem iv_iadd (hx : p.tables.exec = Jvm.exec) (hb : c.code = cc) {x y : Int} (hdg : decode cc pc = .ok (.iadd, 1)) (k : W p l e R s m args below meth c H locs cells slots Q (F0 m (pc + 1) ls (.int (I (x + y)) :: rest))) : W p l e R s m args below meth c H locs cells slots Q (F0 m pc ls (.int (I y) :: .int (I x) :: rest)) := lv_iadd hx hb hdg (by rw [I_add]; exact k)
theorem iv_isub (hx : p.tables.exec = Jvm.exec) (hb : c.code = cc) {x y : Int} (hdg : decode cc pc = .ok (.isub, 1)) (k : W p l e R s m args below meth c H locs cells slots Q (F0 m (pc + 1) ls (.int (I (x - y)) :: rest))) : W p l e R s m args below meth c H locs cells slots Q (F0 m pc ls (.int (I y) :: .int (I x) :: rest)) := lv_isub hx hb hdg (by rw [I_sub]; exact k)
theorem iv_imul (hx : p.tables.exec = Jvm.exec) (hb : c.code = cc) {x y : Int} (hdg : decode cc pc = .ok (.imul, 1)) (k : W p l e R s m args below meth c H locs cells slots Q (F0 m (pc + 1) ls (.int (I (x * y)) :: rest))) : W p l e R s m args below meth c H locs cells slots Q (F0 m pc ls (.int (I y) :: .int (I x) :: rest)) := lv_imul hx hb hdg (by rw [I_mul]; exact k)
theorem iv_idiv (hx : p.tables.exec = Jvm.exec) (hb : c.code = cc) {x y : Int} (hdg : decode cc pc = .ok (.idiv, 1)) (z : Int) (hz : I x / I y = I z) (hy : -2147483648 ≤ y ∧ y ≤ 2147483647 ∧ y ≠ 0) (k : W p l e R s m args below meth c H locs cells slots Q (F0 m (pc + 1) ls (.int (I z) :: rest))) : W p l e R s m args below meth c H locs cells slots Q (F0 m pc ls (.int (I y) :: .int (I x) :: rest)) :=
  lv_idiv hx hb hdg (by rw [← I_0, I_inj (by omega) (by omega)]; exact hy.2.2) (by rw [hz]; exact k)
theorem iv_iinc (hx : p.tables.exec = Jvm.exec) (hb : c.code = cc) {i nL k : Nat} {n x : Int} {lv : List (Nat × Value)} (hdg : decode cc pc = .ok (.iinc i n, 3)) (h : lv_has ls nL lv) (hk : lv[k]? = some (i, .int (I x))) (y : Int) (hy : x + n = y) (hn : i < nL) (lv' : List (Nat × Value)) (hl : (i, Value.int (I y)) :: lv.filter (fun q => !(q.1 == i) && !(q.1 + 1 == i && q.2.category == 2)) = lv')
    (kk : ∀ ls' : Array Slot, lv_has ls' nL lv' → W p l e R s m args below meth c H locs cells slots Q (F0 m (pc + 3) ls' rest)) : W p l e R s m args below meth c H locs cells slots Q (F0 m pc ls rest) :=
  lv_iinc (v := I y) (lv' := lv') hx hb hdg h hk (by rw [← hy, ← I_add]; rfl) hn hl kk
theorem iv_if_eq (hx : p.tables.exec = Jvm.exec) (hb : c.code = cc) {x : Int} {off : Int} {tgt : Nat} (hdg : decode cc pc = .ok (.ifCond .eq off, 3)) (ht : (pc : Int) + off = (tgt : Int)) (h1 : -2147483648 ≤ x ∧ x ≤ 2147483647)
    (kt : x = 0 → W p l e R s m args below meth c H locs cells slots Q (F0 m tgt ls rest)) (kf : ¬ x = 0 → W p l e R s m args below meth c H locs cells slots Q (F0 m (pc + 3) ls rest)) : W p l e R s m args below meth c H locs cells slots Q (F0 m pc ls (.int (I x) :: rest)) :=
  lv_if_eq hx hb hdg ht (fun h => kt ((I_inj (b := 0) h1 (by omega)).mp h)) (fun h => kf (fun q => h ((I_inj (b := 0) h1 (by omega)).mpr q)))
theorem iv_if_ne (hx : p.tables.exec = Jvm.exec) (hb : c.code = cc) {x : Int} {off : Int} {tgt : Nat} (hdg : decode cc pc = .ok (.ifCond .ne off, 3)) (ht : (pc : Int) + off = (tgt : Int)) (h1 : -2147483648 ≤ x ∧ x ≤ 2147483647)
    (kt : ¬ x = 0 → W p l e R s m args below meth c H locs cells slots Q (F0 m tgt ls rest)) (kf : x = 0 → W p l e R s m args below meth c H locs cells slots Q (F0 m (pc + 3) ls rest)) : W p l e R s m args below meth c H locs cells slots Q (F0 m pc ls (.int (I x) :: rest)) :=
  lv_if_ne hx hb hdg ht (fun h => kt (fun q => h ((I_inj (b := 0) h1 (by omega)).mpr q))) (fun h => kf ((I_inj (b := 0) h1 (by omega)).mp h))
theorem iv_if_lt (hx : p.tables.exec = Jvm.exec) (hb : c.code = cc) {x : Int} {off : Int} {tgt : Nat} (hdg : decode cc pc = .ok (.ifCond .lt off, 3)) (ht : (pc : Int) + off = (tgt : Int)) (h1 : -2147483648 ≤ x ∧ x ≤ 2147483647)
    (kt : x < 0 → W p l e R s m args below meth c H locs cells slots Q (F0 m tgt ls rest)) (kf : ¬ x < 0 → W p l e R s m args below meth c H locs cells slots Q (F0 m (pc + 3) ls rest)) : W p l e R s m args below meth c H locs cells slots Q (F0 m pc ls (.int (I x) :: rest)) :=
  lv_if_lt hx hb hdg ht (fun h => kt ((I_lt (b := 0) h1 (by omega)).mp h)) (fun h => kf (fun q => h ((I_lt (b := 0) h1 (by omega)).mpr q)))
theorem iv_if_ge (hx : p.tables.exec = Jvm.exec) (hb : c.code = cc) {x : Int} {off : Int} {tgt : Nat} (hdg : decode cc pc = .ok (.ifCond .ge off, 3)) (ht : (pc : Int) + off = (tgt : Int)) (h1 : -2147483648 ≤ x ∧ x ≤ 2147483647)
    (kt : 0 ≤ x → W p l e R s m args below meth c H locs cells slots Q (F0 m tgt ls rest)) (kf : ¬ 0 ≤ x → W p l e R s m args below meth c H locs cells slots Q (F0 m (pc + 3) ls rest)) : W p l e R s m args below meth c H locs cells slots Q (F0 m pc ls (.int (I x) :: rest)) :=
  lv_if_ge hx hb hdg ht (fun h => kt ((I_le (a := 0) (by omega) h1).mp h)) (fun h => kf (fun q => h ((I_le (a := 0) (by omega) h1).mpr q)))
theorem iv_if_gt (hx : p.tables.exec = Jvm.exec) (hb : c.code = cc) {x : Int} {off : Int} {tgt : Nat} (hdg : decode cc pc = .ok (.ifCond .gt off, 3)) (ht : (pc : Int) + off = (tgt : Int)) (h1 : -2147483648 ≤ x ∧ x ≤ 2147483647)
    (kt : 0 < x → W p l e R s m args below meth c H locs cells slots Q (F0 m tgt ls rest)) (kf : ¬ 0 < x → W p l e R s m args below meth c H locs cells slots Q (F0 m (pc + 3) ls rest)) : W p l e R s m args below meth c H locs cells slots Q (F0 m pc ls (.int (I x) :: rest)) :=
  lv_if_gt hx hb hdg ht (fun h => kt ((I_lt (a := 0) (by omega) h1).mp h)) (fun h => kf (fun q => h ((I_lt (a := 0) (by omega) h1).mpr q)))
theorem iv_if_le (hx : p.tables.exec = Jvm.exec) (hb : c.code = cc) {x : Int} {off : Int} {tgt : Nat} (hdg : decode cc pc = .ok (.ifCond .le off, 3)) (ht : (pc : Int) + off = (tgt : Int)) (h1 : -2147483648 ≤ x ∧ x ≤ 2147483647)
    (kt : x ≤ 0 → W p l e R s m args below meth c H locs cells slots Q (F0 m tgt ls rest)) (kf : ¬ x ≤ 0 → W p l e R s m args below meth c H locs cells slots Q (F0 m (pc + 3) ls rest)) : W p l e R s m args below meth c H locs cells slots Q (F0 m pc ls (.int (I x) :: rest)) :=
  lv_if_le hx hb hdg ht (fun h => kt ((I_le (b := 0) h1 (by omega)).mp h)) (fun h => kf (fun q => h ((I_le (b := 0) h1 (by omega)).mpr q)))
theorem iv_icmp_eq (hx : p.tables.exec = Jvm.exec) (hb : c.code = cc) {x y : Int} {off : Int} {tgt : Nat} (hdg : decode cc pc = .ok (.if_icmp .eq off, 3)) (ht : (pc : Int) + off = (tgt : Int)) (h1 : -2147483648 ≤ x ∧ x ≤ 2147483647) (h2 : -2147483648 ≤ y ∧ y ≤ 2147483647)
    (kt : x = y → W p l e R s m args below meth c H locs cells slots Q (F0 m tgt ls rest)) (kf : ¬ x = y → W p l e R s m args below meth c H locs cells slots Q (F0 m (pc + 3) ls rest)) : W p l e R s m args below meth c H locs cells slots Q (F0 m pc ls (.int (I y) :: .int (I x) :: rest)) :=
  lv_icmp_eq hx hb hdg ht (fun h => kt ((I_inj h1 h2).mp h)) (fun h => kf (fun q => h ((I_inj h1 h2).mpr q)))
theorem iv_icmp_ne (hx : p.tables.exec = Jvm.exec) (hb : c.code = cc) {x y : Int} {off : Int} {tgt : Nat} (hdg : decode cc pc = .ok (.if_icmp .ne off, 3)) (ht : (pc : Int) + off = (tgt : Int)) (h1 : -2147483648 ≤ x ∧ x ≤ 2147483647) (h2 : -2147483648 ≤ y ∧ y ≤ 2147483647)
    (kt : ¬ x = y → W p l e R s m args below meth c H locs cells slots Q (F0 m tgt ls rest)) (kf : x = y → W p l e R s m args below meth c H locs cells slots Q (F0 m (pc + 3) ls rest)) : W p l e R s m args below meth c H locs cells slots Q (F0 m pc ls (.int (I y) :: .int (I x) :: rest)) :=
  lv_icmp_ne hx hb hdg ht (fun h => kt (fun q => h ((I_inj h1 h2).mpr q))) (fun h => kf ((I_inj h1 h2).mp h))
theorem iv_icmp_lt (hx : p.tables.exec = Jvm.exec) (hb : c.code = cc) {x y : Int} {off : Int} {tgt : Nat} (hdg : decode cc pc = .ok (.if_icmp .lt off, 3)) (ht : (pc : Int) + off = (tgt : Int)) (h1 : -2147483648 ≤ x ∧ x ≤ 2147483647) (h2 : -2147483648 ≤ y ∧ y ≤ 2147483647)
    (kt : x < y → W p l e R s m args below meth c H locs cells slots Q (F0 m tgt ls rest)) (kf : ¬ x < y → W p l e R s m args below meth c H locs cells slots Q (F0 m (pc + 3) ls rest)) : W p l e R s m args below meth c H locs cells slots Q (F0 m pc ls (.int (I y) :: .int (I x) :: rest)) :=
  lv_icmp_lt hx hb hdg ht (fun h => kt ((I_lt h1 h2).mp h)) (fun h => kf (fun q => h ((I_lt h1 h2).mpr q)))
theorem iv_icmp_ge (hx : p.tables.exec = Jvm.exec) (hb : c.code = cc) {x y : Int} {off : Int} {tgt : Nat} (hdg : decode cc pc = .ok (.if_icmp .ge off, 3)) (ht : (pc : Int) + off = (tgt : Int)) (h1 : -2147483648 ≤ x ∧ x ≤ 2147483647) (h2 : -2147483648 ≤ y ∧ y ≤ 2147483647)
    (kt : y ≤ x → W p l e R s m args below meth c H locs cells slots Q (F0 m tgt ls rest)) (kf : ¬ y ≤ x → W p l e R s m args below meth c H locs cells slots Q (F0 m (pc + 3) ls rest)) : W p l e R s m args below meth c H locs cells slots Q (F0 m pc ls (.int (I y) :: .int (I x) :: rest)) :=
  lv_icmp_ge hx hb hdg ht (fun h => kt ((I_le h2 h1).mp h)) (fun h => kf (fun q => h ((I_le h2 h1).mpr q)))
theorem iv_icmp_gt (hx : p.tables.exec = Jvm.exec) (hb : c.code = cc) {x y : Int} {off : Int} {tgt : Nat} (hdg : decode cc pc = .ok (.if_icmp .gt off, 3)) (ht : (pc : Int) + off = (tgt : Int)) (h1 : -2147483648 ≤ x ∧ x ≤ 2147483647) (h2 : -2147483648 ≤ y ∧ y ≤ 2147483647)
    (kt : y < x → W p l e R s m args below meth c H locs cells slots Q (F0 m tgt ls rest)) (kf : ¬ y < x → W p l e R s m args below meth c H locs cells slots Q (F0 m (pc + 3) ls rest)) : W p l e R s m args below meth c H locs cells slots Q (F0 m pc ls (.int (I y) :: .int (I x) :: rest)) :=
  lv_icmp_gt hx hb hdg ht (fun h => kt ((I_lt h2 h1).mp h)) (fun h => kf (fun q => h ((I_lt h2 h1).mpr q)))
theorem iv_icmp_le (hx : p.tables.exec = Jvm.exec) (hb : c.code = cc) {x y : Int} {off : Int} {tgt : Nat} (hdg : decode cc pc = .ok (.if_icmp .le off, 3)) (ht : (pc : Int) + off = (tgt : Int)) (h1 : -2147483648 ≤ x ∧ x ≤ 2147483647) (h2 : -2147483648 ≤ y ∧ y ≤ 2147483647)
    (kt : x ≤ y → W p l e R s m args below meth c H locs cells slots Q (F0 m tgt ls rest)) (kf : ¬ x ≤ y → W p l e R s m args below meth c H locs cells slots Q (F0 m (pc + 3) ls rest)) : W p l e R s m args below meth c H locs cells slots Q (F0 m pc ls (.int (I y) :: .int (I x) :: rest)) :=
  lv_icmp_le hx hb hdg ht (fun h => kt ((I_le h1 h2).mp h)) (fun h => kf (fun q => h ((I_le h1 h2).mpr q)))
end IV
abbrev iA (E : Env3) (n : Nat) (g : Nat → Int) : va_E := .inl (E.2.1, n, .inl (fun i => I (g i)))
section IW
variable {p : Program} {l : Launch} {e : Jvm.Env} {R : Room} {s : State} {m : MethodId} {args : Array Value} {below : List Frame} {meth : Method} {c : Code} {H : Heap} {locs : List Loc} {cells slots : Nat} {Q : State → Prop}
variable {cc : ByteArray} {pc : Nat} {ls : Array Slot} {rest st0 : List Value} {E : Env3} {A : Nat → Prop} {H0 : Heap} {a : Nat} {ws : va_W}
theorem iv_iald (hx : p.tables.exec = Jvm.exec) (hb : c.code = cc) (hK : KB E s) (hP : va_P E.1 vwCl ws H) (q0 : Nat) {n : Nat} {g : Nat → Int} (ha : ws[q0]? = some (a, iA E n g)) {i : Int} (k : Nat) (hk : i = (k : Int)) (hkn : k < n ∧ n ≤ 2147483647) (hdg : decode cc pc = .ok (.iaload, 1))
    (kk : W p l e R s m args below meth c H locs cells slots Q (F0 m (pc + 1) ls (.int (I (g k)) :: rest))) : W p l e R s m args below meth c H locs cells slots Q (F0 m pc ls (.int (I i) :: .ref a :: rest)) := by
  subst hk
  refine va_iald hx hb hK.1 hP q0 0 ha rfl (I_in hkn.1 hkn.2) hdg ?_
  rw [I_nat (by omega)]
  exact kk
theorem iv_iast (hx : p.tables.exec = Jvm.exec) (hb : c.code = cc) (hK : KB E s) (hP : va_P E.1 vwCl ws H) (hD : va_D A ws) (hS : va_S A H0 H locs) (q0 : Nat) {n : Nat} {g : Nat → Int} (ha : ws[q0]? = some (a, iA E n g)) {i v : Int} (k : Nat) (hk : i = (k : Int)) (hkn : k < n ∧ n ≤ 2147483647) (hdg : decode cc pc = .ok (.iastore, 1)) (ws' : va_W) (hw : ws.set q0 (a, iA E n (up g k v)) = ws')
    (kk : ∀ (H1 : Heap) (locs1 : List Loc), va_P E.1 vwCl ws' H1 → va_S A H0 H1 locs1 → W p l e R s m args below meth c H1 locs1 cells slots Q (F0 m (pc + 1) ls rest)) : W p l e R s m args below meth c H locs cells slots Q (F0 m pc ls (.int (I v) :: .int (I i) :: .ref a :: rest)) := by
  subst hk
  refine va_iast hx hb hK.1 hP hD hS q0 0 ha rfl (I_in hkn.1 hkn.2) hdg ?_
  intro H1 locs1 hP1 _ hS1
  refine kk H1 locs1 ?_ hS1
  rw [I_nat (by omega), upd_I] at hP1
  rw [← hw]
  exact hP1
/-- a call that writes nothing -/
theorem call_S {v : Option Value} {aa : Array Value} {free : Addr → Prop} (hr : va_Run p l e R s m args below meth c H locs cells slots 0 0 (F0 m pc ls st0) rest (qS v aa) free) (hf : ∀ q, ¬ free q) (hS : va_S A H0 H locs) {st1 : List Value} (h1 : v.toList ++ rest = st1)
    (kk : ∀ locs1 : List Loc, va_S A H0 H locs1 → W p l e R s m args below meth c H locs1 cells slots Q (F0 m (pc + 3) ls st1)) : W p l e R s m args below meth c H locs cells slots Q (F0 m pc ls st0) := by
  intro T hT X
  obtain ⟨v', st₀, t, T', L, h0, X', hL, e1, e2, ⟨hv, hh⟩, st⟩ := hr T hT X
  cases hv
  subst h1
  obtain ⟨t2, a1, b1⟩ := kk (locs ++ L) ⟨hS.1, hS.2.1, fun q hq => by
      rcases List.mem_append.mp hq with h | h
      · exact hS.2.2 q h
      · exact absurd (hL q h) (hf _)⟩ T' (by rw [e1, hh, h0]) X'
  exact ⟨t2, st t2 a1, b1⟩
/-- a call that writes at some places of the world -/
theorem call_W {v : Option Value} {aa : Array Value} {wc w1 : va_W} (hr : va_Run p l e R s m args below meth c H locs cells slots 0 0 (F0 m pc ls st0) rest (qW v E wc w1 aa) (adIn wc)) (hP : va_P E.1 vwCl ws H) (hD : va_D A ws) (hS : va_S A H0 H locs) (is : List Nat) (hC : is.map (fun i => ws[i]?) = wc.map some) (hn : va_nd is = true) (hl : is.length = w1.length)
    (ws' : va_W) (hw : setAll ws is w1 = ws') {st1 : List Value} (h1 : v.toList ++ rest = st1)
    (kk : ∀ (H1 : Heap) (locs1 : List Loc), va_P E.1 vwCl ws' H1 → va_S A H0 H1 locs1 → W p l e R s m args below meth c H1 locs1 cells slots Q (F0 m (pc + 3) ls st1)) : W p l e R s m args below meth c H locs cells slots Q (F0 m pc ls st0) := by
  intro T hT X
  obtain ⟨v', st₀, t, T', L, h0, X', hL, e1, e2, ⟨hv, hP1, hz, hk⟩, st⟩ := hr T hT X
  cases hv
  subst h1
  have hA : ∀ q, adIn wc q → A q := by
    intro q hq
    obtain ⟨j, e', hj⟩ := hq
    have h9 : (is.map (fun i => ws[i]?))[j]? = some (some (q, e')) := by rw [hC, List.getElem?_map, hj]; rfl
    rw [List.getElem?_map] at h9
    cases hi : is[j]? with
    | none => rw [hi] at h9; cases h9
    | some i => rw [hi] at h9; exact hD.2 i (q, e') (Option.some.inj h9)
  rw [h0] at hz hk
  rw [← e1] at hP1 hz hk
  obtain ⟨t2, a1, b1⟩ := kk T'.heap (locs ++ L) (mj_P is hP hD hC hk hP1 hw hn hl)
    ⟨Nat.le_trans hS.1 hz, fun q h1 h2 => by rw [hk q (Nat.lt_of_lt_of_le h1 hS.1) (fun z => h2 (hA q z))]; exact hS.2.1 q h1 h2, fun q hq => by
      rcases List.mem_append.mp hq with h | h
      · exact hS.2.2 q h
      · exact hA _ (hL q h)⟩ T' rfl X'
  exact ⟨t2, st t2 a1, b1⟩
/-- the same, where the callee's world is the whole -/
theorem call_F {v : Option Value} {aa : Array Value} {w1 : va_W} (hr : va_Run p l e R s m args below meth c H locs cells slots 0 0 (F0 m pc ls st0) rest (qW v E ws w1 aa) (adIn ws)) (hD : va_D A ws) (hS : va_S A H0 H locs) {st1 : List Value} (h1 : v.toList ++ rest = st1)
    (kk : ∀ (H1 : Heap) (locs1 : List Loc), va_P E.1 vwCl w1 H1 → va_S A H0 H1 locs1 → W p l e R s m args below meth c H1 locs1 cells slots Q (F0 m (pc + 3) ls st1)) : W p l e R s m args below meth c H locs cells slots Q (F0 m pc ls st0) := by
  intro T hT X
  obtain ⟨v', st₀, t, T', L, h0, X', hL, e1, e2, ⟨hv, hP1, hz, hk⟩, st⟩ := hr T hT X
  cases hv
  subst h1
  have hA : ∀ q, adIn ws q → A q := fun q hq => by obtain ⟨j, e', hj⟩ := hq; exact hD.2 j _ hj
  rw [h0] at hz hk
  rw [← e1] at hP1 hz hk
  obtain ⟨t2, a1, b1⟩ := kk T'.heap (locs ++ L) hP1
    ⟨Nat.le_trans hS.1 hz, fun q h1 h2 => by rw [hk q (Nat.lt_of_lt_of_le h1 hS.1) (fun z => h2 (hA q z))]; exact hS.2.1 q h1 h2, fun q hq => by
      rcases List.mem_append.mp hq with h | h
      · exact hS.2.2 q h
      · exact hA _ (hL q h)⟩ T' rfl X'
  exact ⟨t2, st t2 a1, b1⟩
theorem call_X {σ : Type} {v : Option Value} {aa : Array Value} {w1 : σ → va_W} (hr : va_Run p l e R s m args below meth c H locs cells slots 0 0 (F0 m pc ls st0) rest (qX v E ws w1 aa) (adIn ws)) (hD : va_D A ws) (hS : va_S A H0 H locs) {st1 : List Value} (h1 : v.toList ++ rest = st1)
    (kk : ∀ (g : σ) (H1 : Heap) (locs1 : List Loc), va_P E.1 vwCl (w1 g) H1 → va_S A H0 H1 locs1 → W p l e R s m args below meth c H1 locs1 cells slots Q (F0 m (pc + 3) ls st1)) : W p l e R s m args below meth c H locs cells slots Q (F0 m pc ls st0) := by
  intro T hT X
  obtain ⟨v', st₀, t, T', L, h0, X', hL, e1, e2, ⟨hv, ⟨g, hP1⟩, hz, hk⟩, st⟩ := hr T hT X
  cases hv
  subst h1
  have hA : ∀ q, adIn ws q → A q := fun q hq => by obtain ⟨j, e', hj⟩ := hq; exact hD.2 j _ hj
  rw [h0] at hz hk
  rw [← e1] at hP1 hz hk
  obtain ⟨t2, a1, b1⟩ := kk g T'.heap (locs ++ L) hP1
    ⟨Nat.le_trans hS.1 hz, fun q h1 h2 => by rw [hk q (Nat.lt_of_lt_of_le h1 hS.1) (fun z => h2 (hA q z))]; exact hS.2.1 q h1 h2, fun q hq => by
      rcases List.mem_append.mp hq with h | h
      · exact hS.2.2 q h
      · exact hA _ (hL q h)⟩ T' rfl X'
  exact ⟨t2, st t2 a1, b1⟩
end IW
theorem bool_nar {c : Prop} [Decidable c] : narrow .boolean (.int (I (if c then 1 else 0))) = .int (I (if c then 1 else 0)) := by split <;> rfl
